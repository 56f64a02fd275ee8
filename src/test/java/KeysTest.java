/** Promises 16 to 22, and what the terms say of keys. */
public final class KeysTest {
    public static void main(String[] args) {
        track();
        trackAtMost();
        key();
        keyAtMost();
        unkey();
        setTime();
        tracks();
        now();
        eases();
        ends();
        everyProperty();
        nextKey();
        Check.end();
    }

    private static void track() {
        new Run("promise 16")
                .after("add(0, 1, 5, 5); move(1, 8, 9)")
                .due("track(1, 0, 0, 0)", 0).due("now(1, 0)", 8).due("track(1, 3, 2, 2)", 1)
                .badState("track(1, 0, 1, 1)").badState("track(1, 3, 0, 0)").badState("track(0, 1, 0, 0)")
                .badArgument("track(0, 4, 0, 0)").badArgument("track(1, 0, 3, 0)").badArgument("track(1, 0, 0, 3)")
                .badArgument("track(1, -1, 0, 0)").badArgument("track(1, 1, -1, 0)").badArgument("track(1, 1, 0, -1)")
                .noSuch("track(2, 1, 0, 0)").noSuch("track(2, 4, 0, 0)").noSuch("track(-1, 1, 0, 0)")
                .due("track(1, 1, 1, 0)", 2).after("remove(1)").noSuch("track(1, 2, 0, 0)");
    }

    private static void trackAtMost() {
        Run run = new Run("promise 16, 12 tracks").after("add(0, 1, 5, 5); add(0, 1, 5, 5); add(0, 1, 5, 5); add(0, 1, 5, 5)");
        for (int i = 0; i < 12; i++) {
            run.due("track(" + (1 + i / 4) + ", " + i % 4 + ", 0, 0)", i);
        }
        run.badState("track(4, 0, 0, 0)").badArgument("track(4, 0, 3, 0)").badState("track(1, 0, 0, 0)")
                .due("tracks()", 12).after("remove(1)").badState("track(4, 0, 0, 0)").due("key(11, 0, 50)", 1);
    }

    private static void key() {
        new Run("promise 17")
                .after("add(0, 1, 5, 5); track(1, 0, 0, 0); track(1, 1, 0, 0); track(1, 2, 0, 0); track(1, 3, 0, 0)")
                .due("key(0, 5, -200)", 1).due("key(0, 5, 200)", 1).due("now(1, 0)", 200).due("key(0, 0, 7)", 2)
                .due("key(0, 999, 1)", 3).due("key(0, 3, 1)", 4).due("unkey(0, 5)", 200)
                .due("key(1, 0, -200)", 1).due("key(2, 0, 3)", 1).due("key(2, 1, 0)", 2)
                .due("key(3, 0, 100)", 1).due("key(3, 1, 0)", 2)
                .noSuch("key(4, 0, 0)").noSuch("key(-1, 0, 0)").noSuch("key(12, 0, 0)").noSuch("key(4, -1, 999)")
                .badArgument("key(0, -1, 0)").badArgument("key(0, 1000, 0)").badArgument("key(0, 1, 201)")
                .badArgument("key(0, 1, -201)").badArgument("key(1, 1, 201)").badArgument("key(1, 1, -201)")
                .badArgument("key(2, 1, 4)").badArgument("key(2, 1, -1)").badArgument("key(3, 1, 101)")
                .badArgument("key(3, 1, -1)")
                .after("remove(1)").badState("key(0, 5, 0)").badArgument("key(0, 5, 201)").noSuch("key(4, 5, 0)");
    }

    private static void keyAtMost() {
        Run run = new Run("promise 17, 8 keys").after("add(0, 1, 5, 5); track(1, 0, 0, 0)");
        for (int i = 1; i <= 8; i++) {
            run.due("key(0, " + 10 * (9 - i) + ", " + i + ")", i);
        }
        run.badState("key(0, 5, 0)").badState("key(0, 81, 0)").badArgument("key(0, 5, 201)")
                .due("key(0, 80, 50)", 8).due("key(0, 10, 60)", 8).due("unkey(0, 40)", 5).due("key(0, 41, 9)", 8)
                .badState("key(0, 40, 0)");
    }

    private static void unkey() {
        new Run("promise 18")
                .after("add(0, 1, 5, 5); move(1, -3, 0); track(1, 0, 1, 0); key(0, 0, 10); key(0, 10, 20); key(0, 20, 50)")
                .after("setTime(10)").due("now(1, 0)", 20).due("unkey(0, 10)", 20).due("now(1, 0)", 30)
                .badState("unkey(0, 10)").badState("unkey(0, -1)").badState("unkey(0, 9999)")
                .due("unkey(0, 20)", 50).due("now(1, 0)", 10).due("unkey(0, 0)", 10).due("now(1, 0)", -3)
                .badState("unkey(0, 0)").noSuch("unkey(1, 0)").noSuch("unkey(-1, 0)").noSuch("unkey(12, 0)")
                .due("key(0, 4, 4)", 1).after("remove(1)").badState("unkey(0, 4)");
    }

    private static void setTime() {
        new Run("promise 19")
                .due("setTime(7)", 0).due("setTime(9999)", 7).badArgument("setTime(10000)").badArgument("setTime(-1)")
                .due("setTime(0)", 9999).due("setTime(0)", 0)
                .after("add(0, 1, 5, 5); track(1, 0, 1, 0); key(0, 0, 0); key(0, 10, 100); setTime(4)")
                .due("now(1, 0)", 40).due("toWhole(1, 0, 0, 0)", 40).after("setTime(5)").due("toWhole(1, 0, 0, 0)", 50);
    }

    private static void tracks() {
        new Run("promise 20")
                .due("tracks()", 0).after("add(0, 1, 5, 5); track(1, 0, 1, 0); track(1, 1, 1, 0)").due("tracks()", 2)
                .after("remove(1)").due("tracks()", 2);
    }

    private static void now() {
        new Run("promise 21")
                .after("add(0, 1, 5, 5); move(1, 4, 5); turn(1, 3, true); look(1, 2, 77, false)")
                .due("now(1, 0)", 4).due("now(1, 1)", 5).due("now(1, 2)", 3).due("now(1, 3)", 77)
                .due("now(0, 3)", 100)
                .noSuch("now(2, 0)").noSuch("now(-1, 0)").noSuch("now(2, 4)").badArgument("now(1, 4)").badArgument("now(1, -1)")
                .after("track(1, 1, 0, 0)").due("now(1, 1)", 5).after("key(0, 500, -6)").due("now(1, 1)", -6)
                .due("now(1, 0)", 4).after("remove(1)").noSuch("now(1, 0)");
    }

    private static void eases() {
        String keys = "; key(0, 10, 100); key(0, 20, -15); key(0, 27, 40)";
        nowAt("terms: hold", "add(0, 1, 5, 5); track(1, 0, 0, 0)" + keys,
                new int[][] {{0, 100}, {10, 100}, {11, 100}, {19, 100}, {20, -15}, {26, -15}, {27, 40}, {9999, 40}});
        // 100 - 115 * p / 10 and -15 + 55 * p / 7, / cut towards 0 ahead of the sum.
        nowAt("terms: even", "add(0, 1, 5, 5); track(1, 0, 1, 0)" + keys,
                new int[][] {{9, 100}, {10, 100}, {11, 89}, {13, 66}, {19, -3}, {20, -15}, {21, -8}, {26, 32}, {27, 40}});
        // 100 - 115 * p * p * (30 - 2 * p) / 1000 and -15 + 55 * p * p * (21 - 2 * p) / 343.
        nowAt("terms: soft", "add(0, 1, 5, 5); track(1, 0, 2, 0)" + keys,
                new int[][] {{9, 100}, {10, 100}, {11, 97}, {13, 76}, {15, 43}, {19, -11}, {20, -15}, {21, -12}, {26, 36}, {27, 40}});
        nowAt("terms: soft, far apart", "add(0, 1, 5, 5); track(1, 0, 2, 0); key(0, 0, -200); key(0, 999, 200)",
                new int[][] {{1, -200}, {500, 0}, {333, -97}, {998, 199}, {999, 200}});
    }

    private static void ends() {
        String keys = "; key(0, 10, 0); key(0, 13, 30); key(0, 16, 90)";
        nowAt("terms: stay", "add(0, 1, 5, 5); track(1, 0, 1, 0)" + keys,
                new int[][] {{0, 0}, {10, 0}, {16, 90}, {17, 90}, {22, 90}, {9999, 90}});
        nowAt("terms: again", "add(0, 1, 5, 5); track(1, 0, 1, 1)" + keys,
                new int[][] {{9, 0}, {16, 90}, {17, 10}, {18, 20}, {19, 30}, {21, 70}, {22, 0}, {23, 10}, {28, 0}, {9999, 70}});
        nowAt("terms: back", "add(0, 1, 5, 5); track(1, 0, 1, 2)" + keys,
                new int[][] {{9, 0}, {16, 90}, {17, 70}, {18, 50}, {19, 30}, {20, 20}, {22, 0}, {23, 10}, {28, 90}, {29, 70}, {9999, 70}});
        nowAt("terms: one key", "add(0, 1, 5, 5); track(1, 0, 2, 2); key(0, 50, 8)",
                new int[][] {{0, 8}, {50, 8}, {51, 8}, {9999, 8}});
        nowAt("terms: one key, again", "add(0, 1, 5, 5); track(1, 0, 1, 1); key(0, 50, 8)",
                new int[][] {{0, 8}, {50, 8}, {51, 8}, {9999, 8}});
        for (int end = 0; end < 3; end++) {
            nowAt("terms: down to one key, end " + end, "add(0, 1, 5, 5); track(1, 0, 1, " + end + ")"
                    + "; key(0, 0, 3); key(0, 10, 1); key(0, 20, 9); unkey(0, 0); unkey(0, 20)",
                    new int[][] {{0, 1}, {10, 1}, {11, 1}, {20, 1}, {25, 1}, {9999, 1}});
            nowAt("terms: two keys side by side, end " + end, "add(0, 1, 5, 5); track(1, 0, 2, " + end + ")"
                    + "; key(0, 998, -200); key(0, 999, 200)",
                    new int[][] {{0, -200}, {997, -200}, {998, -200}, {999, 200}, {1000, end == 0 ? 200 : -200},
                        {1001, end == 1 ? -200 : 200}, {9999, end == 1 ? -200 : 200}, {9998, end == 0 ? 200 : -200}});
        }
        nowAt("terms: again, hold", "add(0, 1, 5, 5); track(1, 0, 0, 1); key(0, 0, 5); key(0, 1, 6)",
                new int[][] {{0, 5}, {1, 6}, {2, 5}, {3, 5}, {9999, 5}});
        nowAt("terms: back, hold", "add(0, 1, 5, 5); track(1, 0, 0, 2); key(0, 0, 5); key(0, 1, 6)",
                new int[][] {{0, 5}, {1, 6}, {2, 5}, {3, 6}, {9999, 6}});
    }

    private static void nowAt(String title, String calls, int[][] dues) {
        Run run = new Run(title).after(calls);
        for (int[] due : dues) {
            run.after("setTime(" + due[0] + ")").due("now(1, 0)", due[1]);
        }
    }

    private static void everyProperty() {
        new Run("terms: what a track tells, the node has")
                .after("add(0, 1, 10, 4); track(1, 0, 1, 0); track(1, 1, 1, 0); track(1, 2, 1, 0); track(1, 3, 1, 0)")
                .after("key(0, 0, 0); key(0, 10, 20); key(1, 0, 0); key(1, 10, 40)")
                .after("key(2, 0, 0); key(2, 10, 3); key(3, 0, 100); key(3, 10, 0); setTime(5)")
                .due("now(1, 0)", 10).due("now(1, 1)", 20).due("now(1, 2)", 1).due("now(1, 3)", 50)
                .due("toWhole(1, 3, 4, 0)", 6).due("toWhole(1, 3, 4, 2)", 23).due("fromWhole(1, 6, 23, 0)", 3)
                .due("fromWhole(1, 6, 23, 2)", 4).due("bound(1, 0, false)", 6).due("bound(1, 3, false)", 30)
                .due("strength(1)", 50).due("through(8, 25, 1)", 5000).due("pick(8, 25, 1)", 1)
                .after("setTime(10)").due("isShown(1)", false).due("pick(20, 40, 1)", -1).due("bound(1, 0, true)", 0)
                .after("unkey(3, 10)").due("isShown(1)", true).due("pick(20, 40, 1)", 1);
    }

    private static void nextKey() {
        new Run("promise 22")
                .due("nextKey()", -1)
                .after("add(0, 1, 5, 5); track(1, 0, 0, 0); track(1, 1, 0, 1)").due("nextKey()", -1)
                .after("key(0, 30, 0); key(1, 20, 0); key(1, 0, 0); key(0, 999, 0)").due("nextKey()", 20)
                .after("setTime(19)").due("nextKey()", 20).after("setTime(20)").due("nextKey()", 30)
                .after("setTime(30)").due("nextKey()", 999).after("setTime(999)").due("nextKey()", -1)
                .after("setTime(0); unkey(1, 20)").due("nextKey()", 30).after("remove(1)").due("nextKey()", -1);
    }
}
