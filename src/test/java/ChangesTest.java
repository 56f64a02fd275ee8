/** Promises 35 to 37, and 39. */
public final class ChangesTest {
    public static void main(String[] args) {
        changes();
        changesOfEachProperty();
        pickWithout();
        nextPick();
        nextPickFar();
        nothingIsChanged();
        digest();
        Check.end();
    }

    private static void changes() {
        new Run("promise 35")
                .due("changes(0, 9999)", 0)
                .after("add(0, 0, 0, 0); add(1, 1, 5, 5); add(2, 1, 5, 5); add(0, 1, 5, 5)")
                .due("changes(0, 9999)", 0)
                .after("track(2, 0, 1, 1); key(0, 0, 0)").due("changes(0, 9999)", 0)
                .after("key(0, 10, 10)").due("changes(0, 5)", 2).due("changes(5, 0)", 2).due("changes(5, 15)", 0)
                .due("changes(7, 7)", 0).due("changes(0, 20)", 0)
                .after("track(1, 1, 0, 0); key(1, 100, 1); key(1, 200, 2)").due("changes(0, 200)", 3)
                .due("changes(100, 199)", 2).due("changes(100, 190)", 0)
                .after("setTime(77)").due("changes(0, 5)", 2)
                .after("look(1, 0, 0, true)").due("changes(0, 5)", 2)
                .after("hang(4, 3)").due("changes(0, 5)", 3)
                .badArgument("changes(-1, 0)").badArgument("changes(0, -1)").badArgument("changes(10000, 0)")
                .badArgument("changes(0, 10000)").after("remove(3)").due("changes(0, 5)", 1)
                .after("remove(2)").due("changes(0, 5)", 0);
    }

    private static void changesOfEachProperty() {
        for (int property = 0; property < 4; property++) {
            new Run("promise 35, property " + property)
                    .after("add(0, 1, 5, 5); add(0, 1, 5, 5); track(2, " + property + ", 0, 0); key(0, 3, 1); key(0, 6, 2)")
                    .due("changes(3, 5)", 0).due("changes(5, 6)", 1).due("changes(0, 9999)", 1).due("changes(6, 9999)", 0);
        }
    }

    private static void pickWithout() {
        new Run("promise 36")
                .after("add(0, 1, 10, 10); add(1, 1, 10, 10); add(2, 1, 5, 5); add(0, 1, 3, 3)")
                .due("pickWithout(4, 1, 1, 1)", 3).due("pickWithout(4, 9, 9, 1)", 2).due("pickWithout(3, 4, 4, 1)", 2)
                .due("pickWithout(2, 4, 4, 1)", 1).due("pickWithout(1, 4, 4, 1)", -1).due("pickWithout(1, 1, 1, 1)", 4)
                .due("pickWithout(0, 1, 1, 1)", -1).due("pickWithout(2, 1, 1, 1)", 4).due("pickWithout(3, 1, 1, 2)", 4)
                .after("look(2, 0, 100, true)").due("pickWithout(2, 1, 1, 1)", 4).due("pick(1, 1, 1)", 4)
                .due("pickWithout(4, 1, 1, 1)", 1).due("pickWithout(1, 5, 5, 1)", -1)
                .noSuch("pickWithout(5, 0, 0, 1)").noSuch("pickWithout(-1, 0, 0, 0)").noSuch("pickWithout(5, 10001, 0, 1)")
                .badArgument("pickWithout(1, 10001, 0, 1)").badArgument("pickWithout(1, -10001, 0, 1)")
                .badArgument("pickWithout(1, 0, 10001, 1)").badArgument("pickWithout(1, 0, -10001, 1)")
                .badArgument("pickWithout(1, 0, 0, 0)").badArgument("pickWithout(1, 0, 0, 61)")
                .after("remove(4)").noSuch("pickWithout(4, 0, 0, 1)");
    }

    private static void nextPick() {
        // 2 comes over the spot from 18 to 22, 1 is always there, and 3 covers it from 40 on.
        Run run = new Run("promise 37")
                .after("add(0, 1, 10, 10); add(0, 1, 2, 2); add(0, 1, 1, 1); look(3, 0, 0, false); move(3, 5, 5)")
                .after("track(2, 0, 1, 0); key(0, 0, -15); key(0, 100, 85); track(3, 3, 0, 0); key(1, 0, 0); key(1, 40, 100)")
                .due("nextPick(5, 1, 1, 100)", 18).due("nextPick(5, 1, 1, 17)", -1).due("nextPick(5, 1, 1, 18)", 18)
                .after("setTime(18)").due("nextPick(5, 1, 1, 1)", -1).due("nextPick(5, 1, 1, 100)", 21)
                .after("setTime(20)").due("nextPick(5, 1, 1, 1)", 21).due("nextPick(6, 6, 1, 20)", 40)
                .due("nextPick(6, 6, 1, 19)", -1).due("nextPick(11, 11, 2, 100)", 40)
                .after("setTime(40)").due("nextPick(6, 6, 1, 100)", -1).due("nextPick(5, 1, 1, 100)", -1)
                .badArgument("nextPick(10001, 0, 1, 1)").badArgument("nextPick(-10001, 0, 1, 1)")
                .badArgument("nextPick(0, 10001, 1, 1)").badArgument("nextPick(0, -10001, 1, 1)")
                .badArgument("nextPick(0, 0, 0, 1)").badArgument("nextPick(0, 0, 61, 1)")
                .badArgument("nextPick(0, 0, 1, 0)").badArgument("nextPick(0, 0, 1, 101)").badArgument("nextPick(0, 0, 1, -1)");
        run.due("setTime(0)", 40);
    }

    private static void nextPickFar() {
        new Run("promise 37, up to 9999")
                .after("add(0, 1, 5, 5); track(1, 3, 0, 1); key(0, 0, 0); key(0, 9, 0); key(0, 10, 1)")
                // Shown at 10 alone of what is told, and, since 10 comes again as 0, never above.
                .due("nextPick(1, 1, 1, 100)", 10).after("setTime(9)").due("nextPick(1, 1, 1, 1)", 10)
                .after("setTime(10)").due("nextPick(1, 1, 1, 1)", 11).after("setTime(11)").due("nextPick(1, 1, 1, 100)", -1)
                .after("key(0, 9, 5)").after("setTime(9990)").due("nextPick(1, 1, 1, 100)", 9999)
                .due("nextPick(1, 1, 1, 9)", 9999).due("nextPick(1, 1, 1, 8)", -1)
                .after("setTime(9998)").due("nextPick(1, 1, 1, 100)", 9999)
                .after("setTime(9999)").due("nextPick(1, 1, 1, 100)", -1);
    }

    private static void nothingIsChanged() {
        new Run("what would be")
                .after("add(0, 1, 10, 10); track(1, 3, 0, 1); key(0, 0, 9); key(0, 5, 0); setTime(1)")
                .due("nextPick(1, 1, 1, 100)", 5).due("nextPick(1, 1, 1, 3)", -1).due("pickWithout(1, 1, 1, 1)", -1).due("changes(0, 5)", 1)
                .due("pick(1, 1, 1)", 1).due("isShown(1)", true).due("setTime(1)", 1).due("now(1, 3)", 9);
    }

    private static void digest() {
        // The whole alone: nothing is picked, nothing changes.
        long alone = mixed(1, 1, 0, -1,
                0, -1, 0, 0, 0, 0, 100, 1, 100, 0, 1, 1, 2, 1, 1, 1, 2, 1, 0, 0, 0, 0, 0, 0, 0, 0,
                -1, -1, -1, -1, -1, -1, -1, -1, -1, -1, 0);
        Run run = new Run("promise 39").due("digest()", alone).due("digest()", alone)
                .after("setTime(5)").due("digest()", alone);
        // X of 2 is 20 + 14 * 5 / 7 = 30 now.
        run.after("add(0, 1, 5, 5); remove(1); add(0, 2, 9, 9); move(2, 30, 30); scale(2, 1, 2)")
                .after("track(2, 0, 1, 0); key(0, 7, 34); key(0, 0, 20)")
                .due("digest()", mixed(3, 2, 1, 7,
                        0, -1, 0, 0, 0, 0, 100, 1, 100, 0, 1, 1, 2, 1, 1, 1, 2, 1, 30, 1, 30, 1, 69, 2, 69, 2,
                        2, 0, 1, 30, 30, 0, 100, 1, 100, 1, 61, 2, 31, 1, -58, 1, -56, 1, 30, 1, 30, 1, 69, 2, 69, 2,
                        -1, -1, -1, 2, -1, -1, -1, -1, -1, -1, 1));
        // Hidden, behind, turned; and 0 and 7 tell the same of it, though 1 and 8 do not.
        run.after("look(2, -1, 50, true); turn(2, 3, false); key(0, 7, 20); key(0, 1, 28); key(0, 8, 27); setTime(8)")
                .due("digest()", mixed(3, 2, 1, -1,
                        0, -1, 0, 0, 0, 0, 100, 1, 100, 1, 1, 1, 2, 1, 1, 1, 2, 1, 0, 0, 0, 0, 0, 0, 0, 0,
                        2, 0, 1, 27, 30, 3, 50, 0, 50, 0, 28, 1, 59, 2, 56, 1, -52, 1, 0, 0, 0, 0, 0, 0, 0, 0,
                        -1, -1, -1, -1, -1, -1, -1, -1, -1, -1, 0));
    }

    private static long mixed(long... values) {
        long d = 2647;
        for (long v : values) {
            d = d * 31 + v;
        }
        return d;
    }
}
