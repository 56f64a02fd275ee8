/** Promises 27 to 34, and what the terms say of drawing. */
public final class DrawingTest {
    private static final String SPOT_ERRORS = "10001, 0, 1; -10001, 0, 1; 0, 10001, 1; 0, -10001, 1; 0, 0, 0; 0, 0, 61; 0, 0, -1";

    public static void main(String[] args) {
        isShown();
        strength();
        order();
        orderAsTheyHang();
        orderOfAllLevels();
        covers();
        coversWedge();
        coversCut();
        pick();
        many();
        through();
        Check.end();
    }

    private static void isShown() {
        new Run("promise 27")
                .after("add(0, 0, 0, 0); add(1, 1, 5, 5); add(2, 1, 5, 5)")
                .due("isShown(0)", true).due("isShown(1)", true).due("isShown(3)", true)
                .after("look(2, 0, 100, true)").due("isShown(1)", true).due("isShown(2)", false).due("isShown(3)", false)
                .after("look(2, 0, 1, false)").due("isShown(3)", true)
                .after("look(1, 0, 0, false)").due("isShown(1)", false).due("isShown(3)", false)
                .after("track(1, 3, 0, 0); key(0, 0, 1)").due("isShown(3)", true)
                .after("key(0, 0, 0); look(1, 0, 100, false)").due("isShown(3)", false)
                .noSuch("isShown(4)").noSuch("isShown(-1)").after("remove(2)").noSuch("isShown(3)");
    }

    private static void strength() {
        // 100 * 33 / 100 = 33; 33 * 50 / 100 = 16; 16 * 77 / 100 = 12. Innermost first it would be 38, then 12.
        new Run("promise 28")
                .after("add(0, 0, 0, 0); add(1, 1, 5, 5); add(2, 1, 5, 5)")
                .due("strength(0)", 100).due("strength(3)", 100)
                .after("look(1, 0, 33, false); look(2, 0, 50, false); look(3, 0, 77, false)")
                .due("strength(1)", 33).due("strength(2)", 16).due("strength(3)", 12)
                .after("look(2, 0, 50, true)").due("strength(3)", 12).after("look(1, 0, 0, false)").due("strength(3)", 0)
                .noSuch("strength(4)").noSuch("strength(-1)").after("remove(1)").noSuch("strength(1)");
        // 60 * 3 / 100 = 1, * 67 / 100 = 0; but 67 * 3 / 100 = 2, * 60 / 100 = 1.
        new Run("promise 28, the outermost first")
                .after("add(0, 0, 0, 0); add(1, 1, 5, 5); add(2, 1, 5, 5)")
                .after("look(1, 0, 60, false); look(2, 0, 3, false); look(3, 0, 67, false)").due("strength(3)", 0)
                .after("look(1, 0, 67, false); look(3, 0, 60, false)").due("strength(3)", 1);
        // 100 * 9 / 100 = 9, * 9 / 100 = 0; but neither OPACITY is 0.
        new Run("promise 28, shown with no strength")
                .after("add(0, 0, 0, 0); add(1, 1, 5, 5); look(1, 0, 9, false); look(2, 0, 9, false)")
                .due("strength(2)", 0).due("isShown(2)", true).due("covers(2, 5, 5, 1)", true).due("pick(5, 5, 1)", 2)
                .due("many(5, 5, 1)", 1).due("through(5, 5, 1)", 10000).due("bound(1, 2, false)", 5);
        new Run("promise 28, down to the last level")
                .after("add(0, 1, 9, 9); add(1, 1, 9, 9); add(2, 1, 9, 9); add(3, 1, 9, 9)")
                .after("look(1, 0, 90, false); look(2, 0, 90, false); look(3, 0, 90, false); look(4, 0, 90, false)")
                .due("strength(4)", 64).due("strength(3)", 72).due("strength(2)", 81)
                .after("look(1, 0, 90, true)").due("isShown(4)", false).due("many(0, 0, 1)", 0).due("bound(4, 0, true)", 0);
    }

    private static void order() {
        Run run = new Run("promises 29 and 30")
                .after("add(0, 1, 5, 5); add(0, 1, 5, 5); add(0, 1, 5, 5); add(2, 1, 5, 5); add(2, 1, 5, 5); add(0, 1, 5, 5)")
                .after("look(3, -1, 100, false); look(2, -9, 100, false); look(5, -2, 100, false); look(1, 9, 100, false)");
        orderIs(run, 5, 2, 4, 3, 0, 6, 1);
        run.noSuch("orderAt(7)").noSuch("orderAt(-1)").noSuch("orderAt(-2147483648)").noSuch("placeOf(7)").noSuch("placeOf(-1)")
                .after("look(2, 0, 0, true)").due("orderAt(0)", 3).due("orderAt(2)", 5).due("orderAt(3)", 2).due("placeOf(4)", 4)
                .after("remove(2)").noSuch("placeOf(2)").noSuch("placeOf(4)").noSuch("orderAt(4)").due("orderAt(3)", 1);
    }

    private static void orderAsTheyHang() {
        new Run("terms: of one layer as they hang there")
                .after("add(0, 1, 5, 5); add(0, 1, 5, 5); add(0, 1, 5, 5)")
                .after("look(1, 4, 100, false); look(1, 0, 100, false)")
                .due("orderAt(1)", 1).due("orderAt(2)", 2).due("orderAt(3)", 3)
                .after("look(1, 4, 100, false); look(3, 4, 100, false); look(2, 4, 100, false)")
                .due("orderAt(1)", 1).due("orderAt(2)", 2).due("orderAt(3)", 3)
                .after("hang(1, 0)").due("orderAt(1)", 2).due("orderAt(2)", 3).due("orderAt(3)", 1)
                .after("look(1, -4, 100, false); look(2, -4, 100, false); look(3, -4, 100, false)")
                .due("orderAt(0)", 2).due("orderAt(1)", 3).due("orderAt(2)", 1).due("orderAt(3)", 0);
    }

    /** One in the other down to the last level, each behind the one in which it hangs, or some of them. */
    private static void orderOfAllLevels() {
        Run run = new Run("promise 29, down to the last level")
                .after("add(0, 1, 5, 5); add(1, 1, 5, 5); add(2, 1, 5, 5); add(3, 1, 5, 5)");
        orderIs(run, 0, 1, 2, 3, 4);
        orderIs(run.after("look(4, -1, 100, false)"), 0, 1, 2, 4, 3);
        orderIs(run.after("look(3, -1, 100, false)"), 0, 1, 4, 3, 2);
        orderIs(run.after("look(2, -1, 100, false)"), 0, 4, 3, 2, 1);
        orderIs(run.after("look(1, -1, 100, false)"), 4, 3, 2, 1, 0);
        orderIs(run.after("look(3, 0, 100, false)"), 2, 4, 3, 1, 0);
    }

    private static void orderIs(Run run, int... order) {
        for (int place = 0; place < order.length; place++) {
            run.due("orderAt(" + place + ")", order[place]).due("placeOf(" + order[place] + ")", place);
        }
    }

    private static void covers() {
        Run run = new Run("promise 31")
                .after("add(0, 1, 12, 8); move(1, 10, 4); scale(1, 2, 3); turn(1, 1, false); add(0, 0, 0, 0)")
                // From (10 - 16/3, 4) to (10, 12).
                .due("covers(1, 14, 12, 3)", true).due("covers(1, 13, 12, 3)", false).due("covers(1, 30, 36, 3)", true)
                .due("covers(1, 31, 36, 3)", false).due("covers(1, 30, 37, 3)", false).due("covers(1, 30, 11, 3)", false)
                .due("covers(1, 281, 240, 60)", true).due("covers(1, 279, 240, 60)", false).due("covers(1, 9, 9, 1)", true)
                .due("covers(2, 0, 0, 1)", false).due("covers(0, 0, 0, 1)", false)
                .due("covers(1, 10000, -10000, 60)", false)
                .after("look(1, 0, 100, true)").due("covers(1, 9, 9, 1)", false)
                .after("look(1, 0, 0, false)").due("covers(1, 9, 9, 1)", false)
                .after("look(1, 0, 1, false)").due("covers(1, 9, 9, 1)", true)
                .noSuch("covers(3, 0, 0, 1)").noSuch("covers(-1, 10001, 0, 1)").noSuch("covers(3, 0, 0, 61)");
        for (String spot : SPOT_ERRORS.split("; ")) {
            run.badArgument("covers(1, " + spot + ")");
        }
        run.after("hang(1, 2); look(2, 0, 100, true)").due("covers(1, 9, 9, 1)", false)
                .after("look(2, 0, 100, false)").due("covers(1, 9, 9, 1)", true).after("remove(1)").noSuch("covers(1, 9, 9, 1)");
    }

    private static void coversWedge() {
        new Run("promise 31, a wedge")
                .after("add(0, 2, 6, 3)")
                .due("covers(1, 0, 0, 1)", true).due("covers(1, 6, 0, 1)", true).due("covers(1, 0, 3, 1)", true)
                .due("covers(1, 4, 1, 1)", true).due("covers(1, 2, 2, 1)", true).due("covers(1, 3, 2, 1)", false)
                .due("covers(1, 6, 3, 2)", true).due("covers(1, 121, 30, 30)", false).due("covers(1, 120, 31, 30)", false)
                .due("covers(1, -1, 0, 60)", false).due("covers(1, 0, -1, 60)", false).due("covers(1, 7, 0, 1)", false)
                .due("covers(1, 7, -1, 1)", false).due("covers(1, -2, 4, 1)", false)
                .after("turn(1, 2, true)").due("covers(1, 4, -1, 1)", true).due("covers(1, 3, -2, 1)", false);
    }

    private static void coversCut() {
        new Run("promise 31, cuts")
                .after("add(0, 0, 0, 0); add(1, 1, 20, 20); add(2, 1, 20, 20); move(1, 100, 0); scale(2, 2, 1)")
                .after("cut(1, 4, 6, 30, 30)")
                // 3 from (100, 0) to (140, 40); in 1 cut to (104, 6) to (130, 30).
                .due("covers(3, 104, 6, 1)", true).due("covers(3, 103, 6, 1)", false).due("covers(3, 104, 5, 1)", false)
                .due("covers(3, 130, 30, 1)", true).due("covers(3, 131, 30, 1)", false).due("covers(3, 130, 31, 1)", false)
                .after("cut(2, 5, 5, 6, 6)")
                .due("covers(3, 110, 10, 1)", true).due("covers(3, 109, 10, 1)", false).due("covers(2, 109, 10, 1)", false)
                .due("covers(3, 112, 12, 1)", true).due("covers(3, 113, 12, 1)", false)
                .after("cut(3, 6, 6, 9, 9)").due("covers(3, 111, 11, 1)", false).due("covers(3, 112, 12, 1)", true)
                .due("covers(2, 111, 11, 1)", true).after("uncut(2)").due("covers(3, 118, 18, 1)", true)
                .after("uncut(1); uncut(3)").due("covers(3, 140, 40, 1)", true);
        // A point (x, y) comes as (50 - y / 2, 50 - x / 2): cut to (47, 46) to (49, 48).
        new Run("promise 31, a cut that is turned and mirrored with its node")
                .after("add(0, 1, 20, 10); move(1, 50, 50); turn(1, 1, true); scale(1, 1, 2); cut(1, 4, 2, 8, 6)")
                .due("covers(1, 2820, 2760, 60)", true).due("covers(1, 2819, 2760, 60)", false)
                .due("covers(1, 2820, 2759, 60)", false).due("covers(1, 2940, 2880, 60)", true)
                .due("covers(1, 2941, 2880, 60)", false).due("covers(1, 2940, 2881, 60)", false)
                .after("cut(1, -200, -200, -1, -1)").due("covers(1, 48, 47, 1)", false).due("many(50, 50, 1)", 0)
                .after("cut(1, -200, -200, 0, 0)").due("covers(1, 50, 50, 1)", true).due("covers(1, 49, 50, 1)", false);
    }

    private static void pick() {
        Run run = new Run("promise 32")
                .due("pick(0, 0, 1)", -1)
                .after("add(0, 1, 10, 10); add(0, 1, 10, 10); add(1, 1, 4, 4); move(2, 5, 5)")
                .due("pick(0, 0, 1)", 3).due("pick(9, 1, 2)", 1).due("pick(5, 5, 1)", 2).due("pick(31, 30, 2)", -1)
                .due("pick(30, 30, 2)", 2).due("pick(31, 31, 60)", 3).due("pick(241, 1, 60)", 1)
                .after("look(2, -1, 100, false)").due("pick(5, 5, 1)", 1).due("pick(11, 11, 1)", 2)
                .after("look(1, 0, 0, false)").due("pick(5, 5, 1)", 2).due("pick(0, 0, 1)", -1)
                .due("pick(10000, 10000, 60)", -1).due("pick(-10000, -10000, 1)", -1);
        for (String spot : SPOT_ERRORS.split("; ")) {
            run.badArgument("pick(" + spot + ")");
        }
    }

    private static void many() {
        Run run = new Run("promise 33")
                .due("many(0, 0, 1)", 0)
                .after("add(0, 1, 10, 10); add(0, 2, 10, 10); add(1, 1, 4, 4); add(0, 0, 9, 9)")
                .due("many(0, 0, 1)", 3).due("many(4, 4, 1)", 3).due("many(9, 9, 2)", 2).due("many(6, 6, 1)", 1)
                .due("many(11, 0, 1)", 0).after("look(1, 0, 100, true)").due("many(0, 0, 1)", 1)
                .due("many(10000, 0, 1)", 0).due("many(0, -10000, 60)", 0);
        for (String spot : SPOT_ERRORS.split("; ")) {
            run.badArgument("many(" + spot + ")");
        }
    }

    private static void through() {
        Run run = new Run("promise 34")
                .due("through(0, 0, 1)", 10000)
                .after("add(0, 1, 10, 10); add(0, 1, 5, 5); add(0, 1, 3, 3)")
                .due("through(1, 1, 1)", 0)
                .after("look(1, 0, 33, false)").due("through(7, 7, 1)", 6700)
                // From above: 10000 * 3 / 100 = 300, * 89 / 100 = 267, * 67 / 100 = 178; from below it were 10000,
                // 6700, 5963, 178.
                .after("look(2, 0, 11, false); look(3, 0, 97, false)").due("through(1, 1, 1)", 178)
                .due("through(4, 4, 1)", 5963).due("through(11, 11, 1)", 10000)
                .due("through(10000, 0, 1)", 10000).due("through(0, -10000, 60)", 10000);
        for (String spot : SPOT_ERRORS.split("; ")) {
            run.badArgument("through(" + spot + ")");
        }
        // 4 and 3 leave 10000 * 3 / 100 = 300 * 1 / 100 = 3; * 99 / 100 * 50 / 100 is 1 then, the other way round 0.
        new Run("promise 34, the last one first").after("add(0, 1, 5, 5); add(0, 1, 5, 5); add(0, 1, 5, 5); add(0, 1, 5, 5)")
                .after("look(4, 0, 97, false); look(3, 0, 99, false); look(2, 0, 1, false); look(1, 0, 50, false)")
                .due("through(1, 1, 1)", 1).after("look(2, 0, 50, false); look(1, 0, 1, false)").due("through(1, 1, 1)", 0);
        new Run("promise 34, strength").after("add(0, 0, 0, 0); add(1, 1, 5, 5); look(1, 0, 50, false); look(2, 0, 50, false)")
                .due("through(1, 1, 1)", 7500);
    }
}
