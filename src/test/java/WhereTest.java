/** Promises 23 to 26, and 38. */
public final class WhereTest {
    private static final String NEST = "add(0, 0, 0, 0); add(1, 1, 12, 8); add(2, 2, 3, 6); add(0, 1, 5, 5)"
            + "; move(1, 10, 4); scale(1, 2, 3); turn(1, 1, true); move(2, -5, 7); scale(2, 3, 4); move(4, 100, 50)"
            + "; scale(4, 4, 1); turn(4, 2, false)";

    public static void main(String[] args) {
        toWhole();
        turnsAndMirrors();
        fromWhole();
        between();
        bound();
        boundOfWedges();
        size();
        Check.end();
    }

    private static void toWhole() {
        // (1, 2) of 3 is so in 2 too; in 1 (3/4 - 5, 3/2 + 7) = (-17/4, 17/2);
        // * 2/3: (-17/6, 17/3); mirrored: (17/6, 17/3); turned: (-17/3, 17/6); moved: (13/3, 41/6).
        new Run("promise 23").after(NEST)
                .due("toWhole(2, 1, 2, 0)", 13).due("toWhole(2, 1, 2, 1)", 3)
                .due("toWhole(2, 1, 2, 2)", 41).due("toWhole(2, 1, 2, 3)", 6)
                .due("toWhole(3, 1, 2, 0)", 13).due("toWhole(3, 1, 2, 3)", 6)
                .due("toWhole(0, -1000, 1000, 0)", -1000).due("toWhole(0, -1000, 1000, 1)", 1)
                .due("toWhole(0, -1000, 1000, 2)", 1000).due("toWhole(0, -1000, 1000, 3)", 1)
                .due("toWhole(1, 0, 15, 0)", 0).due("toWhole(1, 0, 15, 1)", 1)
                .badArgument("toWhole(1, 1001, 0, 0)").badArgument("toWhole(1, -1001, 0, 0)")
                .badArgument("toWhole(1, 0, 1001, 0)").badArgument("toWhole(1, 0, -1001, 0)")
                .badArgument("toWhole(1, 0, 0, 4)").badArgument("toWhole(1, 0, 0, -1)")
                .noSuch("toWhole(5, 0, 0, 0)").noSuch("toWhole(-1, 1001, 0, 0)").noSuch("toWhole(5, 0, 0, 9)")
                .after("remove(2)").noSuch("toWhole(3, 0, 0, 0)");
    }

    private static void turnsAndMirrors() {
        int[][] turned = {{5, 3}, {-3, 5}, {-5, -3}, {3, -5}};
        int[][] mirrored = {{-5, 3}, {-3, -5}, {5, -3}, {3, 5}};
        for (int turns = 0; turns < 4; turns++) {
            both(turns, false, turned[turns]);
            both(turns, true, mirrored[turns]);
        }
    }

    private static void both(int turns, boolean isMirrored, int[] due) {
        String turn = "turn(1, " + turns + ", " + isMirrored + ")";
        new Run("promises 23 and 24, " + turn).after("add(0, 0, 0, 0); " + turn)
                .due("toWhole(1, 5, 3, 0)", due[0]).due("toWhole(1, 5, 3, 2)", due[1])
                .due("fromWhole(1, " + due[0] + ", " + due[1] + ", 0)", 5)
                .due("fromWhole(1, " + due[0] + ", " + due[1] + ", 2)", 3);
    }

    private static void fromWhole() {
        // (1, 2) less (10, 4): (-9, -2); turned back: (-2, 9); mirrored back: (2, 9); * 3/2: (3, 27/2) in 1;
        // less (-5, 7): (8, 13/2); * 4/3: (32/3, 26/3) in 2.
        new Run("promise 24").after(NEST)
                .due("fromWhole(1, 1, 2, 0)", 3).due("fromWhole(1, 1, 2, 1)", 1)
                .due("fromWhole(1, 1, 2, 2)", 27).due("fromWhole(1, 1, 2, 3)", 2)
                .due("fromWhole(2, 1, 2, 0)", 32).due("fromWhole(2, 1, 2, 1)", 3)
                .due("fromWhole(2, 1, 2, 2)", 26).due("fromWhole(3, 1, 2, 3)", 3)
                .due("fromWhole(0, 1000, -1000, 2)", -1000)
                .due("fromWhole(4, 100, 50, 0)", 0).due("fromWhole(4, 100, 50, 1)", 1)
                .badArgument("fromWhole(1, 1001, 0, 0)").badArgument("fromWhole(1, -1001, 0, 0)")
                .badArgument("fromWhole(1, 0, 1001, 0)").badArgument("fromWhole(1, 0, -1001, 0)")
                .badArgument("fromWhole(1, 0, 0, 4)").badArgument("fromWhole(1, 0, 0, -1)")
                .noSuch("fromWhole(5, 0, 0, 0)").noSuch("fromWhole(-1, 0, 0, 4)")
                .after("remove(2)").noSuch("fromWhole(2, 0, 0, 0)");
        new Run("promise 24, whatever is cut").after("add(0, 1, 5, 5); move(1, 3, 0); cut(1, 0, 0, 1, 1)")
                .due("fromWhole(1, 100, 7, 0)", 97).due("fromWhole(1, 100, 7, 2)", 7);
    }

    private static void between() {
        // (1, 2) of 2 is (13/3, 41/6) in the whole; less (100, 50): (-287/3, -259/6); turned back twice, / 4.
        new Run("promise 25").after(NEST)
                .due("between(2, 4, 1, 2, 0)", 287).due("between(2, 4, 1, 2, 1)", 12)
                .due("between(2, 4, 1, 2, 2)", 259).due("between(2, 4, 1, 2, 3)", 24)
                .due("between(2, 1, 1, 2, 0)", -17).due("between(2, 1, 1, 2, 1)", 4)
                .due("between(2, 0, 1, 2, 0)", 13).due("between(0, 2, 1, 2, 0)", 32)
                .due("between(3, 3, -999, 7, 0)", -999).due("between(3, 3, -999, 7, 1)", 1)
                .noSuch("between(5, 1, 0, 0, 0)").noSuch("between(1, 5, 0, 0, 0)").noSuch("between(1, 5, 1001, 0, 0)")
                .noSuch("between(-1, 0, 0, 0, 4)")
                .badArgument("between(1, 2, 1001, 0, 0)").badArgument("between(1, 2, -1001, 0, 0)")
                .badArgument("between(1, 2, 0, 1001, 0)").badArgument("between(1, 2, 0, -1001, 0)")
                .badArgument("between(1, 2, 0, 0, 4)").badArgument("between(1, 2, 0, 0, -1)")
                .after("remove(2)").noSuch("between(1, 3, 0, 0, 0)").noSuch("between(2, 1, 0, 0, 0)");
        String deep = "add(0, 0, 0, 0); add(1, 0, 0, 0); add(2, 0, 0, 0); add(3, 1, 9, 9)"
                + "; add(0, 0, 0, 0); add(5, 0, 0, 0); add(6, 0, 0, 0); add(7, 1, 9, 9)";
        Run far = new Run("promise 25, as far as it goes").after(deep);
        for (int i = 1; i <= 4; i++) {
            far.after("scale(" + i + ", 4, 1); move(" + i + ", 200, 199); scale(" + (i + 4) + ", 1, 4)");
        }
        far.due("between(4, 8, 1000, 1000, 0)", (1000 * 256 + 200 * 85) * 256)
                .due("between(4, 8, 1000, 1000, 1)", 1)
                .due("between(4, 8, 1000, 1000, 2)", (1000 * 256 + 199 * 85) * 256)
                .due("between(8, 4, 1, 0, 1)", 65536);
    }

    private static void bound() {
        new Run("promise 26").after(NEST)
                // 4 alone: turned twice, so that it goes from (100, 50) back by 20.
                .due("bound(4, 0, false)", 80).due("bound(4, 1, false)", 30)
                .due("bound(4, 2, false)", 100).due("bound(4, 3, false)", 50).due("bound(4, 3, true)", 1)
                // 2 in 1 from (-5, 7) to (4, 13); * 2/3, mirrored, turned: x = 10 - 2/3 y, y = 4 - 2/3 x.
                .due("bound(2, 0, false)", 4).due("bound(2, 0, true)", 3)
                .due("bound(2, 1, false)", 4).due("bound(2, 1, true)", 3)
                .due("bound(2, 2, false)", 16).due("bound(2, 2, true)", 3)
                .due("bound(2, 3, false)", 22).due("bound(2, 3, true)", 3)
                .due("bound(0, 0, false)", 4).due("bound(0, 2, false)", 100).due("bound(0, 2, true)", 1)
                .noSuch("bound(5, 0, false)").noSuch("bound(-1, 4, true)")
                .badArgument("bound(1, 4, false)").badArgument("bound(1, -1, true)")
                .after("cut(2, 0, 0, 1, 1); cut(1, 0, 0, 0, 0)").due("bound(1, 3, false)", 22)
                .after("look(2, 0, 100, true)").due("bound(1, 0, false)", 0).due("bound(1, 0, true)", 0)
                .due("bound(3, 2, true)", 0).due("bound(0, 0, false)", 80)
                .after("look(2, 0, 0, false)").due("bound(1, 3, true)", 0).due("bound(3, 3, true)", 0)
                .after("look(2, 0, 1, false); look(1, 0, 0, false)").due("bound(2, 0, true)", 0)
                .after("remove(2)").noSuch("bound(2, 0, false)").due("bound(1, 2, true)", 0);
        new Run("promise 26, a node and what is in it").after("add(0, 1, 5, 5); add(1, 1, 2, 2); move(2, -7, 4); add(0, 1, 99, 99)")
                .due("bound(1, 0, false)", -7).due("bound(1, 2, false)", 5).due("bound(1, 1, false)", 0)
                .due("bound(1, 3, false)", 6).due("bound(2, 2, false)", -5);
        // 2 from (-9/2, 1) to (-4, 7/2), 3 from (11, 1) to (35/3, 13/3).
        new Run("promise 26, fractions")
                .after("add(0, 0, 0, 0); add(1, 1, 1, 5); add(1, 1, 1, 5); scale(2, 1, 2); scale(3, 2, 3)")
                .after("move(2, -4, 1); turn(2, 0, true); move(3, 11, 1)")
                .due("bound(1, 0, false)", -9).due("bound(1, 0, true)", 2).due("bound(1, 2, false)", 35)
                .due("bound(1, 2, true)", 3).due("bound(1, 3, false)", 13).due("bound(1, 3, true)", 3)
                .after("move(3, -5, 1)").due("bound(1, 0, false)", -5).due("bound(1, 0, true)", 1)
                .due("bound(1, 2, false)", -4).due("bound(1, 2, true)", 1)
                .after("scale(1, 1, 4); move(1, 1, 1)").due("bound(1, 0, false)", -1).due("bound(1, 0, true)", 4)
                .due("bound(1, 1, false)", 5).due("bound(1, 1, true)", 4).due("bound(3, 3, false)", 25)
                .due("bound(3, 3, true)", 12).due("bound(2, 3, false)", 15).due("bound(2, 3, true)", 8);
        new Run("promise 26, one after the other").after("add(0, 1, 5, 5); add(0, 1, 5, 5); move(2, 20, 20)")
                .due("bound(1, 1, false)", 0).due("bound(2, 1, false)", 20).due("bound(2, 0, false)", 20)
                .due("bound(2, 3, false)", 25).due("bound(1, 3, false)", 5).due("bound(1, 2, false)", 5);
        new Run("promise 26, nothing").after("add(0, 0, 9, 9)").due("bound(0, 0, false)", 0).due("bound(0, 3, true)", 0);
    }

    private static void boundOfWedges() {
        Run run = new Run("promise 26, wedges").after("add(0, 2, 10, 4); move(1, 20, 30); scale(1, 1, 4)");
        int[][] dues = {{20, 1, 30, 1, 45, 2, 31, 1}, {19, 1, 30, 1, 20, 1, 65, 2},
            {35, 2, 29, 1, 20, 1, 30, 1}, {20, 1, 55, 2, 21, 1, 30, 1}};
        for (int turns = 0; turns < 4; turns++) {
            run.after("turn(1, " + turns + ", false)");
            for (int side = 0; side < 4; side++) {
                run.due("bound(1, " + side + ", false)", dues[turns][2 * side]);
                run.due("bound(1, " + side + ", true)", dues[turns][2 * side + 1]);
            }
        }
    }

    private static void size() {
        new Run("promise 38")
                .due("size(0)", 1.0).after(NEST).due("size(1)", 2.0 / 3.0).due("size(2)", 0.5).due("size(3)", 0.5)
                .due("size(4)", 4.0).after("scale(3, 1, 3)").due("size(3)", 1.0 / 6.0)
                .after("scale(3, 2, 2)").due("size(3)", 0.5).noSuch("size(5)").noSuch("size(-1)")
                .after("remove(3)").noSuch("size(3)");
        new Run("promise 38, divided once")
                .after("add(0, 0, 0, 0); add(1, 0, 0, 0); add(2, 0, 0, 0); add(3, 0, 0, 0)")
                .after("scale(1, 1, 3); scale(2, 1, 3); scale(3, 4, 3); scale(4, 2, 3)")
                .due("size(4)", 8.0 / 81.0).due("size(3)", 4.0 / 27.0).due("size(2)", 1.0 / 9.0)
                .after("scale(1, 4, 1); scale(2, 4, 1); scale(3, 4, 1); scale(4, 4, 1)").due("size(4)", 256.0)
                .due("toWhole(4, -1000, 1000, 0)", -256000).due("fromWhole(4, 1000, 999, 0)", 125).due("fromWhole(4, 1000, 999, 1)", 32)
                .due("fromWhole(4, 1000, 999, 3)", 256)
                .after("scale(1, 1, 4); scale(2, 1, 4); scale(3, 1, 4); scale(4, 1, 4)").due("size(4)", 0.00390625)
                .due("toWhole(4, 1000, -999, 0)", 125).due("toWhole(4, 1000, -999, 1)", 32).due("toWhole(4, 1000, -999, 3)", 256)
                .due("fromWhole(4, -1000, 1000, 2)", 256000);
    }
}
