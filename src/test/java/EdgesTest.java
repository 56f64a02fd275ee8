import java.lang.reflect.Method;
import java.util.ArrayList;
import java.util.List;

/**
 * The edges that the document names: each limit on both sides, numbers of nodes and tracks that there are not, which of
 * several exceptions comes, that a refused call changes nothing, and what an empty and a full scene answer.
 */
public final class EdgesTest {
    private static final String NO_SUCH = "IndexOutOfBoundsException";
    private static final String BAD_ARGUMENT = "IllegalArgumentException";
    private static final String BAD_STATE = "IllegalStateException";

    /** 1 to 3 and 6 hang one in the other, 4 beside them; 5 is gone, and so is track 0; track 4 is full. */
    private static final String BUILT = "add(0, 0, 0, 0); add(1, 1, 12, 8); add(2, 2, 9, 9); add(0, 1, 30, 30)"
            + "; add(0, 1, 5, 5); add(3, 1, 4, 4); track(5, 0, 1, 0); key(0, 3, 9); remove(5)"
            + "; track(1, 0, 1, 1); track(2, 2, 0, 2); track(4, 3, 2, 0); track(4, 1, 1, 2)"
            + "; key(1, 0, -5); key(1, 10, 50); key(1, 25, 7); key(2, 5, 3); key(2, 9, 1); key(3, 0, 40); key(3, 20, 90)"
            + "; key(4, 1, 1); key(4, 2, 12); key(4, 3, 3); key(4, 4, 14); key(4, 5, 5); key(4, 6, 16); key(4, 7, 7)"
            + "; key(4, 8, 18); move(1, 10, 4); scale(1, 2, 3); turn(1, 3, true); look(4, -2, 80, false); move(4, 3, 4)"
            + "; cut(2, -1, 1, 10, 6); scale(3, 4, 1); look(3, 2, 60, false); look(6, 0, 50, true); setTime(7)";

    /** A call with # in the place of the argument, the least and the greatest that it may be, and what comes beyond. */
    private static final String[] LIMITS = {
        "add(0, #, 5, 5) | 0 | 2 | " + BAD_ARGUMENT,
        "add(0, 1, #, 5) | 1 | 200 | " + BAD_ARGUMENT,
        "add(0, 1, 5, #) | 1 | 200 | " + BAD_ARGUMENT,
        "add(0, 2, #, 5) | 1 | 200 | " + BAD_ARGUMENT,
        "add(0, 2, 5, #) | 1 | 200 | " + BAD_ARGUMENT,
        "move(1, #, 77) | -200 | 200 | " + BAD_ARGUMENT,
        "move(1, 77, #) | -200 | 200 | " + BAD_ARGUMENT,
        "scale(1, #, 4) | 1 | 4 | " + BAD_ARGUMENT,
        "scale(1, 4, #) | 1 | 4 | " + BAD_ARGUMENT,
        "turn(1, #, false) | 0 | 3 | " + BAD_ARGUMENT,
        "look(4, #, 33, true) | -9 | 9 | " + BAD_ARGUMENT,
        "look(4, 9, #, true) | 0 | 100 | " + BAD_ARGUMENT,
        "cut(4, #, -5, 200, 5) | -200 | 200 | " + BAD_ARGUMENT,
        "cut(4, -5, #, 5, 200) | -200 | 200 | " + BAD_ARGUMENT,
        "cut(4, -200, -5, #, 5) | -200 | 200 | " + BAD_ARGUMENT,
        "cut(4, -5, -200, 5, #) | -200 | 200 | " + BAD_ARGUMENT,
        "cut(2, #, 0, 7, 3) | -200 | 7 | " + BAD_ARGUMENT,
        "cut(2, 0, #, 3, 7) | -200 | 7 | " + BAD_ARGUMENT,
        "cut(2, 7, 0, #, 3) | 7 | 200 | " + BAD_ARGUMENT,
        "cut(2, 0, 7, 3, #) | 7 | 200 | " + BAD_ARGUMENT,
        "track(3, #, 0, 0) | 0 | 3 | " + BAD_ARGUMENT,
        "track(3, 0, #, 0) | 0 | 2 | " + BAD_ARGUMENT,
        "track(3, 0, 0, #) | 0 | 2 | " + BAD_ARGUMENT,
        "key(1, #, 9) | 0 | 999 | " + BAD_ARGUMENT,
        "key(1, 4, #) | -200 | 200 | " + BAD_ARGUMENT,
        "key(2, 4, #) | 0 | 3 | " + BAD_ARGUMENT,
        "key(3, 4, #) | 0 | 100 | " + BAD_ARGUMENT,
        "key(4, 4, #) | -200 | 200 | " + BAD_ARGUMENT,
        "setTime(#) | 0 | 9999 | " + BAD_ARGUMENT,
        "now(1, #) | 0 | 3 | " + BAD_ARGUMENT,
        "toWhole(1, #, 5, 0) | -1000 | 1000 | " + BAD_ARGUMENT,
        "toWhole(1, 5, #, 0) | -1000 | 1000 | " + BAD_ARGUMENT,
        "toWhole(1, 5, 5, #) | 0 | 3 | " + BAD_ARGUMENT,
        "fromWhole(1, #, 5, 0) | -1000 | 1000 | " + BAD_ARGUMENT,
        "fromWhole(1, 5, #, 0) | -1000 | 1000 | " + BAD_ARGUMENT,
        "fromWhole(1, 5, 5, #) | 0 | 3 | " + BAD_ARGUMENT,
        "between(1, 4, #, 5, 0) | -1000 | 1000 | " + BAD_ARGUMENT,
        "between(1, 4, 5, #, 0) | -1000 | 1000 | " + BAD_ARGUMENT,
        "between(1, 4, 5, 5, #) | 0 | 3 | " + BAD_ARGUMENT,
        "bound(1, #, false) | 0 | 3 | " + BAD_ARGUMENT,
        "bound(1, #, true) | 0 | 3 | " + BAD_ARGUMENT,
        "orderAt(#) | 0 | 5 | " + NO_SUCH,
        "covers(1, #, 5, 1) | -10000 | 10000 | " + BAD_ARGUMENT,
        "covers(1, 5, #, 1) | -10000 | 10000 | " + BAD_ARGUMENT,
        "covers(1, 5, 5, #) | 1 | 60 | " + BAD_ARGUMENT,
        "pick(#, 5, 1) | -10000 | 10000 | " + BAD_ARGUMENT,
        "pick(5, #, 1) | -10000 | 10000 | " + BAD_ARGUMENT,
        "pick(5, 5, #) | 1 | 60 | " + BAD_ARGUMENT,
        "many(#, 5, 1) | -10000 | 10000 | " + BAD_ARGUMENT,
        "many(5, #, 1) | -10000 | 10000 | " + BAD_ARGUMENT,
        "many(5, 5, #) | 1 | 60 | " + BAD_ARGUMENT,
        "through(#, 5, 1) | -10000 | 10000 | " + BAD_ARGUMENT,
        "through(5, #, 1) | -10000 | 10000 | " + BAD_ARGUMENT,
        "through(5, 5, #) | 1 | 60 | " + BAD_ARGUMENT,
        "changes(#, 5) | 0 | 9999 | " + BAD_ARGUMENT,
        "changes(5, #) | 0 | 9999 | " + BAD_ARGUMENT,
        "pickWithout(1, #, 5, 1) | -10000 | 10000 | " + BAD_ARGUMENT,
        "pickWithout(1, 5, #, 1) | -10000 | 10000 | " + BAD_ARGUMENT,
        "pickWithout(1, 5, 5, #) | 1 | 60 | " + BAD_ARGUMENT,
        "nextPick(#, 5, 1, 9) | -10000 | 10000 | " + BAD_ARGUMENT,
        "nextPick(5, #, 1, 9) | -10000 | 10000 | " + BAD_ARGUMENT,
        "nextPick(5, 5, #, 9) | 1 | 60 | " + BAD_ARGUMENT,
        "nextPick(5, 5, 1, #) | 1 | 100 | " + BAD_ARGUMENT,
    };

    /** Calls with # in the place of a node; those of the second row have wrong arguments behind it. */
    private static final String[] OF_NODES = {
        "add(#, 1, 5, 5)", "remove(#)", "hang(#, 4)", "hang(4, #)", "hang(#, #)", "move(#, 1, 1)", "scale(#, 1, 1)",
        "turn(#, 1, true)", "look(#, 1, 1, true)", "cut(#, 1, 1, 2, 2)", "uncut(#)", "parent(#)", "level(#)",
        "common(#, 1)", "common(1, #)", "common(#, #)", "track(#, 1, 1, 1)", "now(#, 1)", "toWhole(#, 1, 1, 1)",
        "fromWhole(#, 1, 1, 1)", "between(#, 1, 1, 1, 1)", "between(1, #, 1, 1, 1)", "bound(#, 1, true)", "isShown(#)",
        "strength(#)", "placeOf(#)", "covers(#, 1, 1, 1)", "pickWithout(#, 1, 1, 1)", "size(#)",
        "add(#, 3, 0, 0)", "hang(0, #)", "move(#, 201, 1)", "scale(#, 0, 1)", "turn(#, 4, true)", "look(#, 10, 1, true)",
        "cut(#, 3, 1, 2, 2)", "track(#, 4, 1, 1)", "now(#, 4)", "toWhole(#, 1, 1, 4)", "fromWhole(#, 1001, 1, 1)",
        "between(#, 1, 1, 1001, 1)", "between(1, #, 1, 1, 4)", "bound(#, 4, true)", "covers(#, 1, 1, 0)",
        "pickWithout(#, 1, 10001, 1)",
    };

    /** Of BUILT: 5 is gone, 7 on were never added. */
    private static final int[] NO_NODES = {-1, 5, 7, 29, 30, 31, Integer.MIN_VALUE, Integer.MAX_VALUE};
    private static final int[] NO_TRACKS = {-1, 5, 11, 12, 13, Integer.MIN_VALUE, Integer.MAX_VALUE};

    /** Calls to BUILT for which two or more exceptions hold, or one that only what is there brings about. */
    private static final String[] REFUSED = {
        "add(6, 1, 5, 5) | " + BAD_STATE,
        "add(6, 0, 0, 0) | " + BAD_STATE,
        "add(6, 3, 5, 5) | " + BAD_ARGUMENT,
        "add(6, 2, 5, 0) | " + BAD_ARGUMENT,
        "remove(0) | " + BAD_STATE,
        "hang(0, 4) | " + BAD_STATE,
        "hang(0, 0) | " + BAD_STATE,
        "hang(1, 1) | " + BAD_STATE,
        "hang(1, 2) | " + BAD_STATE,
        "hang(1, 6) | " + BAD_STATE,
        "hang(1, 4) | " + BAD_STATE,
        "hang(4, 6) | " + BAD_STATE,
        "move(0, 1, 1) | " + BAD_STATE,
        "move(0, 0, -201) | " + BAD_STATE,
        "scale(0, 2, 1) | " + BAD_STATE,
        "scale(0, 1, 5) | " + BAD_STATE,
        "turn(0, 1, true) | " + BAD_STATE,
        "turn(0, -1, false) | " + BAD_STATE,
        "look(0, 1, 50, true) | " + BAD_STATE,
        "look(0, 0, 101, false) | " + BAD_STATE,
        "cut(0, 0, 0, 1, 1) | " + BAD_STATE,
        "cut(0, 0, 1, 0, 0) | " + BAD_STATE,
        "cut(2, 5, 5, 4, 4) | " + BAD_ARGUMENT,
        "track(0, 1, 1, 1) | " + BAD_STATE,
        "track(0, 4, 1, 1) | " + BAD_ARGUMENT,
        "track(1, 0, 0, 0) | " + BAD_STATE,
        "track(1, 0, 3, 0) | " + BAD_ARGUMENT,
        "track(1, 0, 0, -1) | " + BAD_ARGUMENT,
        "key(0, 3, 9) | " + BAD_STATE,
        "key(0, 4, 9) | " + BAD_STATE,
        "key(0, 1000, 9) | " + BAD_ARGUMENT,
        "key(0, 3, 201) | " + BAD_ARGUMENT,
        "key(4, 0, 9) | " + BAD_STATE,
        "key(4, 9, 9) | " + BAD_STATE,
        "key(4, -1, 9) | " + BAD_ARGUMENT,
        "key(4, 9, -201) | " + BAD_ARGUMENT,
        "unkey(0, 3) | " + BAD_STATE,
        "unkey(1, 1) | " + BAD_STATE,
        "unkey(1, -1) | " + BAD_STATE,
        "unkey(1, 1000) | " + BAD_STATE,
        "unkey(1, 2147483647) | " + BAD_STATE,
    };

    private static final String PORTRAIT = portrait(new Run("as built").after(BUILT));

    public static void main(String[] args) {
        limits();
        missingNodes();
        missingTracks();
        refused();
        groupsAreOfAnySize();
        empty();
        fullOfNodes();
        fullOfTracks();
        wrapsAround();
        nothingElseIsThrown();
        Check.end();
    }

    private static void limits() {
        for (String row : LIMITS) {
            String[] cells = row.split(" \\| ");
            int least = Integer.parseInt(cells[1]);
            int most = Integer.parseInt(cells[2]);
            accepts(put(cells[0], least));
            accepts(put(cells[0], most));
            for (int beyond : new int[] {least - 1, most + 1, Integer.MIN_VALUE, Integer.MAX_VALUE}) {
                refuses(put(cells[0], beyond), cells[3]);
            }
        }
    }

    private static void missingNodes() {
        for (String call : OF_NODES) {
            for (int node : NO_NODES) {
                refuses(put(call, node), NO_SUCH);
            }
        }
    }

    private static void missingTracks() {
        for (String call : new String[] {"key(#, 3, 3)", "key(#, 1000, 3)", "key(#, 3, 201)", "unkey(#, 3)", "unkey(#, -1)"}) {
            for (int track : NO_TRACKS) {
                refuses(put(call, track), NO_SUCH);
            }
        }
    }

    private static void refused() {
        for (String row : REFUSED) {
            String[] cells = row.split(" \\| ");
            refuses(cells[0], cells[1]);
        }
    }

    private static void groupsAreOfAnySize() {
        new Run("promise 2, the size of a group")
                .due("add(0, 0, 0, 201)", 1).due("add(1, 0, -2147483648, 2147483647)", 2).due("add(2, 0, -1, -1)", 3)
                .due("many(0, 0, 1)", 0).due("bound(0, 2, true)", 0);
    }

    private static void empty() {
        new Run("the whole alone")
                .due("added()", 1).due("nodes()", 1).due("tracks()", 0).due("nextKey()", -1).due("parent(0)", -1)
                .due("level(0)", 0).due("common(0, 0)", 0).due("uncut(0)", false).due("isShown(0)", true)
                .due("strength(0)", 100).due("orderAt(0)", 0).due("placeOf(0)", 0).due("size(0)", 1.0)
                .due("covers(0, 0, 0, 1)", false).due("pick(0, 0, 1)", -1).due("many(0, 0, 1)", 0)
                .due("through(0, 0, 1)", 10000).due("changes(0, 9999)", 0).due("pickWithout(0, 0, 0, 1)", -1)
                .due("nextPick(0, 0, 1, 100)", -1).due("toWhole(0, 0, 0, 0)", 0).due("toWhole(0, 0, 0, 1)", 1)
                .due("fromWhole(0, -7, 0, 0)", -7).due("fromWhole(0, -7, 0, 3)", 1).due("between(0, 0, 1000, -1000, 2)", -1000)
                .due("bound(0, 0, false)", 0).due("bound(0, 0, true)", 0).due("bound(0, 3, false)", 0).due("bound(0, 3, true)", 0)
                .noSuch("orderAt(1)").noSuch("orderAt(-1)").noSuch("key(0, 0, 0)").noSuch("unkey(0, 0)")
                .noSuch("parent(1)").badState("remove(0)");
        new Run("a track without keys").after("add(0, 1, 5, 5); move(1, 6, 0); track(1, 0, 2, 2)")
                .due("now(1, 0)", 6).due("nextKey()", -1).due("changes(0, 9999)", 0).due("nextPick(6, 0, 1, 100)", -1)
                .badState("unkey(0, 0)").due("tracks()", 1)
                .after("key(0, 9, 50); unkey(0, 9)").due("now(1, 0)", 6).due("nextKey()", -1);
    }

    private static void fullOfNodes() {
        Run run = new Run("30 nodes");
        for (int i = 1; i < 30; i++) {
            run.due("add(" + (i % 4 == 1 ? 0 : i - 1) + ", 1, 5, 5)", i);
        }
        run.due("added()", 30).due("nodes()", 30).due("level(28)", 4).due("many(0, 0, 1)", 29).due("orderAt(29)", 29)
                .badState("add(0, 1, 5, 5)").badState("add(0, 0, 0, 0)").badState("add(28, 1, 5, 5)")
                .badArgument("add(0, -1, 5, 5)").badArgument("add(28, 1, 201, 5)").noSuch("add(30, 1, 5, 5)")
                .noSuch("orderAt(30)").due("remove(1)", 4).badState("add(0, 1, 5, 5)").noSuch("add(4, 1, 5, 5)")
                .due("added()", 30).due("nodes()", 26).due("orderAt(25)", 29).noSuch("orderAt(26)");
        for (int i = 5; i < 30; i += 4) {
            run.due("remove(" + i + ")", i == 29 ? 1 : 4);
        }
        run.due("nodes()", 1).due("added()", 30).badState("add(0, 0, 0, 0)").due("pick(0, 0, 1)", -1);
    }

    private static void fullOfTracks() {
        Run run = new Run("12 tracks of 8 keys").after("add(0, 1, 5, 5); add(0, 1, 5, 5); add(0, 1, 5, 5); add(0, 1, 5, 5)");
        for (int track = 0; track < 12; track++) {
            run.due("track(" + (track / 4 + 1) + ", " + track % 4 + ", 0, 0)", track);
            for (int key = 1; key <= 8; key++) {
                run.due("key(" + track + ", " + key * 100 + ", " + key % 4 + ")", key);
            }
            run.badState("key(" + track + ", 999, 1)").due("key(" + track + ", 800, 3)", 8);
        }
        run.due("tracks()", 12).badState("track(4, 0, 0, 0)").badState("track(1, 0, 0, 0)").badState("track(0, 0, 0, 0)")
                .badArgument("track(4, 4, 0, 0)").noSuch("track(5, 0, 0, 0)").noSuch("key(12, 0, 0)")
                .due("nextKey()", 100).after("setTime(700)").due("nextKey()", 800).after("setTime(800)").due("nextKey()", -1)
                .after("remove(1); remove(2); remove(3)").due("tracks()", 12).badState("track(4, 0, 0, 0)")
                .badState("key(11, 800, 3)").badState("unkey(11, 800)").noSuch("unkey(12, 800)");
    }

    /** The first eleven values alone pass 2 to the 63rd, so a digest that did not wrap would be another one. */
    private static void wrapsAround() {
        java.math.BigInteger d = java.math.BigInteger.valueOf(2647);
        int[] values = {1, 1, 0, -1, 0, -1, 0, 0, 0, 0, 100, 1, 100, 0, 1, 1, 2, 1, 1, 1, 2, 1, 0, 0, 0, 0, 0, 0, 0, 0,
            -1, -1, -1, -1, -1, -1, -1, -1, -1, -1, 0};
        for (int v : values) {
            d = d.multiply(java.math.BigInteger.valueOf(31)).add(java.math.BigInteger.valueOf(v));
        }
        Check.compare("a digest is long", "" + (d.bitLength() > 64), "true");
        new Run("promise 39, wrapped around").due("digest()", d.longValue());
    }

    /** Whatever the arguments are, only what the face names is thrown. */
    private static void nothingElseIsThrown() {
        int[] odd = {Integer.MIN_VALUE, -1, 0, 1, 4, 100, Integer.MAX_VALUE};
        for (Method method : TapestryScene.class.getDeclaredMethods()) {
            if (java.lang.reflect.Modifier.isPublic(method.getModifiers())) {
                callWithAll(method, odd);
            }
        }
    }

    private static void callWithAll(Method method, int[] odd) {
        int arguments = method.getParameterCount();
        int ways = 1;
        for (int i = 0; i < arguments; i++) {
            ways *= odd.length;
        }
        Run run = null;
        for (int way = 0; way < ways; way++) {
            if (way % 400 == 0) {
                run = new Run("any arguments").after(BUILT);
            }
            run.declared(method, argumentsOf(method, odd, way));
        }
    }

    private static Object[] argumentsOf(Method method, int[] odd, int way) {
        Object[] arguments = new Object[method.getParameterCount()];
        int left = way;
        for (int i = 0; i < arguments.length; i++) {
            boolean isTruth = method.getParameterTypes()[i] == boolean.class;
            arguments[i] = isTruth ? (Object) (left % 2 == 0) : (Object) odd[left % odd.length];
            left /= odd.length;
        }
        return arguments;
    }

    private static String put(String call, int argument) {
        return call.replace("#", Integer.toString(argument));
    }

    private static void accepts(String call) {
        new Run("an edge").after(BUILT).after(call);
    }

    private static void refuses(String call, String exception) {
        Run run = new Run("refused").after(BUILT).due(call, exception);
        Check.compare("all that is, after " + call, portrait(run), PORTRAIT);
    }

    /** All that a scene like BUILT can be asked for, at last by setting anew what only tells what it was before. */
    private static String portrait(Run run) {
        List<String> calls = new ArrayList<>(List.of("added()", "nodes()", "tracks()", "nextKey()", "digest()"));
        for (int time : new int[] {0, 3, 10, 17, 30, 9999}) {
            calls.add("setTime(" + time + ")");
            calls.add("digest()");
        }
        for (int node = 0; node < 8; node++) {
            calls.add("size(" + node + ")");
            for (int at = 0; at <= 40; at += 8) {
                calls.add("covers(" + node + ", " + at + ", " + (at * 7 + 3) % 41 + ", 2)");
            }
        }
        for (int at = 0; at <= 40; at += 4) {
            calls.add("through(" + at + ", " + (at * 3 + 5) % 41 + ", 1)");
        }
        for (int track = 0; track < 6; track++) {
            for (int time : new int[] {0, 3, 4, 5, 8, 9, 10, 20, 25, 999}) {
                calls.add("unkey(" + track + ", " + time + ")");
            }
        }
        calls.add("digest()");
        addLayers(calls, 1, 4);
        addLayers(calls, 4, 1);
        for (int node = 0; node < 8; node++) {
            calls.add("uncut(" + node + ")");
            calls.add("scale(" + node + ", 1, 1)");
            calls.add("look(" + node + ", 0, 100, false)");
            calls.add("move(" + node + ", 2, 2)");
            calls.add("turn(" + node + ", 0, false)");
        }
        for (int track = 0; track < 6; track++) {
            calls.add("key(" + track + ", 500, 1)");
            calls.add("key(" + track + ", 510, 3)");
        }
        calls.addAll(List.of("setTime(507)", "digest()", "setTime(518)", "digest()", "hang(6, 0)", "hang(3, 0)",
                "hang(2, 1)", "digest()", "track(3, 0, 0, 0)", "track(3, 1, 0, 0)", "add(6, 1, 5, 5)", "digest()"));
        StringBuilder told = new StringBuilder();
        for (String call : calls) {
            told.append(call).append(' ').append(run.told(call)).append("; ");
        }
        return told.toString();
    }

    private static void addLayers(List<String> calls, int moved, int asked) {
        for (int layer = -9; layer <= 9; layer++) {
            calls.add("look(" + moved + ", " + layer + ", 100, false)");
            calls.add("placeOf(" + asked + ")");
        }
    }
}
