/** Promises 1 to 15. */
public final class ThingsTest {
    public static void main(String[] args) {
        newObject();
        add();
        addAtMost();
        remove();
        removeEndsTracks();
        hang();
        hangKeepsWhatItHas();
        hangLevels();
        move();
        scale();
        turn();
        look();
        cut();
        uncut();
        counts();
        parentAndLevel();
        common();
        wholeIsAsItIs();
        Check.end();
    }

    private static void newObject() {
        new Run("promise 1")
                .due("added()", 1).due("nodes()", 1).due("tracks()", 0).due("parent(0)", -1).due("level(0)", 0)
                .due("now(0, 0)", 0).due("now(0, 1)", 0).due("now(0, 2)", 0).due("now(0, 3)", 100)
                .due("isShown(0)", true).due("orderAt(0)", 0).due("nextKey()", -1).due("setTime(5)", 0);
    }

    private static void add() {
        new Run("promise 2")
                .due("add(0, 0, -5, 900)", 1).due("add(1, 1, 1, 200)", 2).due("add(1, 2, 200, 1)", 3)
                .due("parent(2)", 1).due("orderAt(3)", 3)
                .due("now(3, 0)", 0).due("now(3, 1)", 0).due("now(3, 2)", 0).due("now(3, 3)", 100)
                .due("scale(3, 1, 1)", 11).due("turn(3, 0, false)", 0).due("uncut(3)", false)
                .noSuch("add(4, 0, 0, 0)").noSuch("add(-1, 0, 0, 0)").noSuch("add(30, 0, 0, 0)")
                .noSuch("add(2147483647, 9, 0, 0)").noSuch("add(-2147483648, 0, 0, 0)")
                .badArgument("add(0, 3, 5, 5)").badArgument("add(0, -1, 5, 5)")
                .badArgument("add(0, 1, 0, 5)").badArgument("add(0, 1, 5, 0)")
                .badArgument("add(0, 2, 201, 5)").badArgument("add(0, 2, 5, 201)")
                .badArgument("add(0, 1, -2147483648, 5)")
                .due("added()", 4)
                .after("remove(1)").noSuch("add(1, 0, 0, 0)").noSuch("add(2, 7, 0, 0)").due("add(0, 1, 5, 5)", 4);
    }

    private static void addAtMost() {
        Run full = new Run("promise 2, 30 nodes");
        for (int i = 1; i < 29; i++) {
            full.due("add(0, 1, 5, 5)", i);
        }
        full.after("remove(3); remove(4)").due("add(0, 1, 5, 5)", 29).due("nodes()", 28).due("added()", 30)
                .badState("add(0, 1, 5, 5)").badArgument("add(0, 3, 5, 5)").noSuch("add(3, 1, 5, 5)")
                .badState("add(29, 0, 5, 5)").due("placeOf(29)", 27);
        new Run("promise 2, levels")
                .after("add(0, 1, 1, 1); add(1, 2, 1, 1); add(2, 1, 1, 1)").due("add(3, 1, 1, 1)", 4)
                .badState("add(4, 0, 0, 0)").badArgument("add(4, 1, 0, 1)").due("add(3, 0, 0, 0)", 5);
    }

    private static void remove() {
        new Run("promise 3")
                .after("add(0, 0, 0, 0); add(1, 1, 5, 5); add(2, 1, 5, 5); add(1, 1, 5, 5); add(0, 1, 9, 9)")
                .noSuch("remove(6)").noSuch("remove(-1)").badState("remove(0)")
                .due("remove(2)", 2).due("nodes()", 4).due("added()", 6)
                .noSuch("remove(2)").noSuch("remove(3)").due("parent(4)", 1)
                .due("remove(1)", 2).noSuch("isShown(4)").due("nodes()", 2).due("orderAt(1)", 5)
                .due("pick(0, 0, 1)", 5).due("remove(5)", 1).due("pick(0, 0, 1)", -1);
        new Run("promise 3, the first, the middle and the last that hang in one")
                .after("add(0, 1, 5, 5); add(0, 1, 5, 5); add(0, 1, 5, 5); add(0, 1, 5, 5); add(0, 1, 5, 5)")
                .after("remove(3); remove(1); remove(5)")
                .due("nodes()", 3).due("orderAt(1)", 2).due("orderAt(2)", 4).noSuch("orderAt(3)")
                .due("add(0, 1, 5, 5)", 6).due("placeOf(6)", 3).due("hang(2, 0)", 3);
    }

    private static void removeEndsTracks() {
        new Run("promise 3, tracks")
                .after("add(0, 0, 0, 0); add(1, 1, 5, 5); add(0, 1, 5, 5)")
                .after("track(1, 0, 1, 0); track(2, 1, 1, 0); track(3, 0, 1, 0)")
                .after("key(0, 10, 5); key(1, 5, 5); key(2, 20, 5)")
                .due("nextKey()", 5).due("remove(1)", 2).due("nextKey()", 20).due("tracks()", 3)
                .badState("key(0, 10, 5)").badState("key(1, 30, 5)").badState("unkey(0, 10)").badState("unkey(1, 5)")
                .badArgument("key(0, 1000, 5)").badArgument("key(0, 10, 201)").due("key(2, 30, 5)", 2);
        for (int property = 0; property < 4; property++) {
            new Run("promise 3, the track of property " + property)
                    .after("add(0, 1, 5, 5); track(1, " + property + ", 0, 0); key(0, 4, 3)").due("nextKey()", 4)
                    .after("remove(1)").due("nextKey()", -1).badState("key(0, 4, 3)").badState("unkey(0, 4)");
        }
    }

    private static void hang() {
        new Run("promise 4")
                .after("add(0, 0, 0, 0); add(0, 1, 5, 5); add(0, 1, 5, 5); add(2, 1, 5, 5)")
                .noSuch("hang(5, 0)").noSuch("hang(1, 5)").noSuch("hang(-1, 0)").noSuch("hang(0, 5)")
                .noSuch("hang(5, 5)").badState("hang(0, 1)").badState("hang(0, 0)").badState("hang(2, 2)")
                .badState("hang(2, 4)")
                .due("hang(2, 1)", 1).due("parent(2)", 1).due("level(4)", 3).due("hang(3, 1)", 2)
                .due("hang(2, 1)", 2).due("orderAt(2)", 3).due("orderAt(3)", 2).due("orderAt(4)", 4)
                .due("hang(4, 0)", 2).due("level(4)", 1).due("placeOf(4)", 4).due("hang(1, 0)", 2)
                .due("orderAt(1)", 4).due("orderAt(2)", 1).due("orderAt(3)", 3).due("orderAt(4)", 2)
                .after("remove(3)").noSuch("hang(3, 0)").noSuch("hang(4, 3)").due("hang(4, 1)", 2);
    }

    private static void hangKeepsWhatItHas() {
        new Run("promise 4, what is hung elsewhere has what it had")
                .after("add(0, 0, 0, 0); add(0, 1, 10, 10); move(2, 5, 6); scale(2, 2, 1); turn(2, 1, true); look(2, -3, 50, false)")
                .after("cut(2, 0, 0, 3, 3); track(2, 1, 0, 0); key(0, 0, 7); add(2, 1, 4, 4)")
                .due("orderAt(0)", 2).due("hang(2, 1)", 1).due("orderAt(1)", 2).due("orderAt(2)", 3).due("orderAt(3)", 1)
                .due("now(2, 0)", 5).due("now(2, 1)", 7).due("now(2, 2)", 1).due("now(2, 3)", 50).due("size(3)", 2.0)
                .due("parent(3)", 2).due("level(3)", 3).due("toWhole(2, 1, 3, 0)", -1).due("toWhole(2, 1, 3, 2)", 5)
                .due("unkey(0, 0)", 7).due("move(2, 0, 0)", 5).due("uncut(2)", true).due("turn(2, 0, false)", 1)
                .due("scale(2, 1, 1)", 21);
    }

    private static void hangLevels() {
        new Run("promise 4, levels")
                .after("add(0, 0, 0, 0); add(1, 0, 0, 0); add(2, 0, 0, 0)")
                .after("add(0, 0, 0, 0); add(4, 0, 0, 0); add(0, 1, 1, 1)")
                .badState("hang(4, 3)").due("hang(4, 2)", 2).due("level(5)", 4)
                .due("hang(6, 3)", 1).due("level(6)", 4).badState("hang(1, 6)").badState("hang(5, 6)")
                .due("hang(5, 0)", 2).due("hang(4, 3)", 2).badState("hang(5, 4)").due("hang(5, 3)", 3);
    }

    private static void move() {
        new Run("promise 5")
                .after("add(0, 1, 5, 5)")
                .due("move(1, 7, -8)", 0).due("now(1, 0)", 7).due("now(1, 1)", -8)
                .due("move(1, -200, 200)", 7).due("move(1, 200, -200)", -200).due("toWhole(1, 0, 0, 2)", -200)
                .badArgument("move(1, 201, 0)").badArgument("move(1, 0, 201)").badArgument("move(1, -201, 0)")
                .badArgument("move(1, 0, -201)").badState("move(0, 0, 0)").badState("move(0, 201, 0)")
                .noSuch("move(2, 0, 0)").noSuch("move(-1, 201, 0)")
                .after("track(1, 0, 0, 0); key(0, 0, 3)").due("now(1, 0)", 3)
                .due("move(1, 9, 9)", 200).due("move(1, 10, 9)", 9).due("now(1, 0)", 3)
                .after("remove(1)").noSuch("move(1, 0, 0)");
    }

    private static void scale() {
        new Run("promise 6")
                .after("add(0, 1, 5, 5)")
                .due("scale(1, 2, 4)", 11).due("scale(1, 4, 1)", 24).due("scale(1, 1, 4)", 41).due("size(1)", 0.25)
                .badArgument("scale(1, 0, 1)").badArgument("scale(1, 5, 1)").badArgument("scale(1, 1, 0)")
                .badArgument("scale(1, 1, 5)").badArgument("scale(1, -2147483648, 1)")
                .badState("scale(0, 1, 1)").badState("scale(0, 0, 0)").noSuch("scale(2, 1, 1)").noSuch("scale(-1, 0, 0)")
                .due("scale(1, 1, 1)", 14).after("remove(1)").noSuch("scale(1, 1, 1)");
    }

    private static void turn() {
        new Run("promise 7")
                .after("add(0, 1, 5, 5)")
                .due("turn(1, 3, true)", 0).due("now(1, 2)", 3).due("turn(1, 1, false)", 3).due("toWhole(1, 2, 1, 0)", -1)
                .due("turn(1, 1, true)", 1).due("toWhole(1, 2, 1, 2)", -2)
                .badArgument("turn(1, 4, false)").badArgument("turn(1, -1, false)")
                .badState("turn(0, 0, false)").badState("turn(0, 4, true)").noSuch("turn(2, 0, false)").noSuch("turn(-1, 9, true)")
                .after("track(1, 2, 0, 0); key(0, 0, 2)").due("now(1, 2)", 2).due("turn(1, 0, false)", 1)
                .after("remove(1)").noSuch("turn(1, 0, true)");
    }

    private static void look() {
        new Run("promise 8")
                .after("add(0, 1, 5, 5); add(0, 1, 5, 5)")
                .due("look(2, -9, 40, false)", 100).due("placeOf(2)", 0).due("now(2, 3)", 40).due("isShown(2)", true)
                .due("look(2, 9, 0, false)", 40).due("placeOf(2)", 2).due("isShown(2)", false)
                .due("look(2, 0, 100, true)", 0).due("isShown(2)", false).due("look(2, 0, 100, false)", 100)
                .due("isShown(2)", true)
                .badArgument("look(1, 10, 0, false)").badArgument("look(1, -10, 0, false)")
                .badArgument("look(1, 0, 101, false)").badArgument("look(1, 0, -1, false)")
                .badState("look(0, 0, 100, false)").badState("look(0, 99, 100, false)").noSuch("look(3, 0, 0, true)")
                .noSuch("look(-1, 99, 0, true)")
                .after("track(1, 3, 0, 0); key(0, 0, 7)").due("now(1, 3)", 7).due("look(1, 0, 5, false)", 100)
                .due("look(1, 0, 6, false)", 5).after("remove(1)").noSuch("look(1, 0, 0, true)");
    }

    private static void cut() {
        new Run("promise 9")
                .after("add(0, 1, 20, 20)")
                .due("cut(1, 2, 3, 8, 9)", false).due("covers(1, 2, 3, 1)", true).due("covers(1, 1, 3, 1)", false)
                .due("cut(1, -200, -200, 200, 200)", true).due("covers(1, 1, 3, 1)", true)
                .due("cut(1, 5, 6, 5, 6)", true).due("covers(1, 5, 6, 1)", true).due("covers(1, 5, 7, 1)", false)
                .badArgument("cut(1, -201, 0, 1, 1)").badArgument("cut(1, 0, -201, 1, 1)")
                .badArgument("cut(1, 0, 0, 201, 1)").badArgument("cut(1, 0, 0, 1, 201)")
                .badArgument("cut(1, 201, 0, 201, 1)").badArgument("cut(1, -300, 0, -201, 1)")
                .badArgument("cut(1, 0, 202, 1, 203)").badArgument("cut(1, 0, -9999, 1, -9998)")
                .badArgument("cut(1, 2, 0, 1, 1)").badArgument("cut(1, 0, 2, 1, 1)")
                .badState("cut(0, 0, 0, 1, 1)").badState("cut(0, 2, 0, 1, 1)").noSuch("cut(2, 0, 0, 1, 1)")
                .noSuch("cut(-1, 2, 0, 1, 1)").due("covers(1, 5, 6, 1)", true).due("covers(1, 0, 0, 1)", false)
                .after("remove(1)").noSuch("cut(1, 0, 0, 1, 1)");
    }

    private static void uncut() {
        new Run("promise 10")
                .after("add(0, 1, 20, 20)")
                .due("uncut(1)", false).after("cut(1, 2, 2, 3, 3)").due("covers(1, 9, 9, 1)", false)
                .due("uncut(1)", true).due("covers(1, 9, 9, 1)", true).due("uncut(1)", false)
                .due("cut(1, 2, 2, 3, 3)", false).due("uncut(0)", false).noSuch("uncut(2)").noSuch("uncut(-1)")
                .after("remove(1)").noSuch("uncut(1)");
    }

    private static void counts() {
        new Run("promises 11 and 12")
                .due("added()", 1).due("nodes()", 1)
                .after("add(0, 0, 0, 0); add(1, 1, 5, 5); add(0, 1, 5, 5)").due("added()", 4).due("nodes()", 4)
                .after("remove(1)").due("added()", 4).due("nodes()", 2)
                .after("add(0, 1, 1, 1)").due("added()", 5).due("nodes()", 3);
    }

    private static void parentAndLevel() {
        new Run("promises 13 and 14")
                .after("add(0, 0, 0, 0); add(1, 1, 5, 5); add(2, 1, 5, 5); add(3, 1, 1, 1)")
                .due("parent(0)", -1).due("parent(1)", 0).due("parent(4)", 3)
                .due("level(0)", 0).due("level(1)", 1).due("level(4)", 4)
                .noSuch("parent(5)").noSuch("parent(-1)").noSuch("level(5)").noSuch("level(-1)")
                .noSuch("level(2147483647)")
                .after("hang(3, 0)").due("parent(3)", 0).due("level(4)", 2)
                .after("remove(3)").noSuch("parent(3)").noSuch("parent(4)").noSuch("level(4)");
    }

    private static void common() {
        new Run("promise 15")
                .after("add(0, 0, 0, 0); add(1, 1, 5, 5); add(2, 1, 5, 5); add(1, 1, 5, 5); add(4, 1, 5, 5); add(0, 1, 5, 5)")
                .due("common(3, 5)", 1).due("common(5, 3)", 1).due("common(3, 2)", 2).due("common(2, 3)", 2)
                .due("common(3, 3)", 3).due("common(3, 6)", 0).due("common(0, 3)", 0).due("common(0, 0)", 0)
                .due("common(1, 5)", 1).noSuch("common(0, 7)").noSuch("common(7, 0)").noSuch("common(-1, -1)")
                .after("remove(2)").noSuch("common(3, 1)").noSuch("common(1, 2)").due("common(1, 5)", 1);
    }

    private static void wholeIsAsItIs() {
        new Run("terms: the whole")
                .after("add(0, 1, 5, 5)")
                .badState("move(0, 1, 1)").badState("scale(0, 2, 1)").badState("turn(0, 1, true)")
                .badState("look(0, 1, 1, true)").badState("cut(0, 0, 0, 1, 1)").badState("remove(0)")
                .badState("track(0, 0, 0, 0)").due("size(0)", 1.0).due("toWhole(0, 3, 4, 0)", 3).due("strength(0)", 100);
    }
}
