import java.util.Random;

/** Long runs of calls, drawn by a seed, on the class and on the plain model of the document side by side. */
public final class ModelTest {
    private static final int RUNS = 400;
    private static final int CALLS = 512;

    private final Random draw;
    private final TapestryScene scene = new TapestryScene();
    private final SceneModel model = new SceneModel();
    private final String run;
    // Some runs call wrongly rarely, so that they come far, others often.
    private final int wrongOf;
    private final int spread;

    private ModelTest(long seed) {
        draw = new Random(seed);
        run = "seed " + seed + ": ";
        wrongOf = seed % 3 == 0 ? 8 : 60;
        spread = seed % 2 == 0 ? 30 : 200;
    }

    public static void main(String[] args) {
        for (int seed = 1; seed <= RUNS; seed++) {
            ModelTest test = new ModelTest(seed);
            for (int call = 0; call < CALLS; call++) {
                test.callOne(call < 60 || test.draw.nextInt(3) == 0);
            }
        }
        Check.end();
    }

    private void callOne(boolean isBuilding) {
        if (isBuilding) {
            change(draw.nextInt(22));
        } else if (draw.nextInt(40) == 0) {
            same("digest()", scene.digest(), model.digest());
        } else {
            ask(draw.nextInt(26));
        }
    }

    private void change(int which) {
        int node = node();
        int other = node();
        switch (which) {
            case 0, 1, 2, 3, 4 -> {
                int kind = from(0, 2);
                int w = from(1, spread);
                int h = from(1, spread);
                call("add", () -> scene.add(node, kind, w, h), () -> model.add(node, kind, w, h), node, kind, w, h);
            }
            case 5 -> {
                if (draw.nextInt(4) == 0) {
                    call("remove", () -> scene.remove(node), () -> model.remove(node), node);
                }
            }
            case 6, 7 -> call("hang", () -> scene.hang(node, other), () -> model.hang(node, other), node, other);
            case 8, 9 -> {
                int x = from(-spread, spread);
                int y = from(-spread, spread);
                call("move", () -> scene.move(node, x, y), () -> model.move(node, x, y), node, x, y);
            }
            case 10 -> {
                int n = from(1, 4);
                int d = from(1, 4);
                call("scale", () -> scene.scale(node, n, d), () -> model.scale(node, n, d), node, n, d);
            }
            case 11 -> {
                int t = from(0, 3);
                boolean m = draw.nextBoolean();
                call("turn", () -> scene.turn(node, t, m), () -> model.turn(node, t, m), node, t);
            }
            case 12, 13 -> {
                int layer = draw.nextBoolean() ? from(-9, 9) : from(-1, 1);
                int o = draw.nextInt(9) == 0 ? 0 : from(0, 100);
                boolean hidden = draw.nextInt(9) == 0;
                call("look", () -> scene.look(node, layer, o, hidden), () -> model.look(node, layer, o, hidden),
                        node, layer, o);
            }
            case 14 -> {
                int l = from(-200, 40);
                int t = from(-200, 40);
                int r = from(20, 200);
                int b = from(20, 200);
                call("cut", () -> Check.bit(scene.cut(node, l, t, r, b)), () -> model.cut(node, l, t, r, b),
                        node, l, t, r, b);
            }
            case 15 -> call("uncut", () -> Check.bit(scene.uncut(node)), () -> model.uncut(node), node);
            default -> changeKeys(which);
        }
    }

    private void changeKeys(int which) {
        int track = from(0, Math.max(0, scene.tracks() - 1));
        int at = draw.nextInt(3) == 0 ? from(0, 999) : from(0, 20);
        switch (which) {
            case 16 -> {
                int node = node();
                int property = from(0, 3);
                int ease = from(0, 2);
                int end = from(0, 2);
                call("track", () -> scene.track(node, property, ease, end),
                        () -> model.track(node, property, ease, end), node, property, ease, end);
            }
            case 17 -> call("unkey", () -> scene.unkey(track, at), () -> model.unkey(track, at), track, at);
            case 18 -> {
                int to = draw.nextInt(4) == 0 ? from(0, 9999) : from(0, 30);
                call("setTime", () -> scene.setTime(to), () -> model.setTime(to), to);
            }
            default -> {
                int value = draw.nextBoolean() ? from(0, 3) : draw.nextBoolean() ? from(0, 100) : from(-200, 200);
                call("key", () -> scene.key(track, at, value), () -> model.key(track, at, value), track, at, value);
            }
        }
    }

    private void ask(int which) {
        int node = node();
        int other = node();
        int property = from(0, 3);
        boolean is = draw.nextBoolean();
        switch (which) {
            case 0 -> call("added", () -> scene.added(), () -> model.added());
            case 1 -> call("nodes", () -> scene.nodes(), () -> model.nodes());
            case 2 -> call("parent", () -> scene.parent(node), () -> model.parent(node), node);
            case 3 -> call("level", () -> scene.level(node), () -> model.level(node), node);
            case 4 -> call("common", () -> scene.common(node, other), () -> model.common(node, other), node, other);
            case 5 -> call("tracks", () -> scene.tracks(), () -> model.tracks());
            case 6 -> call("now", () -> scene.now(node, property), () -> model.now(node, property), node, property);
            case 7 -> call("nextKey", () -> scene.nextKey(), () -> model.nextKey());
            case 8 -> call("bound", () -> scene.bound(node, property, is), () -> model.bound(node, property, is),
                    node, property, (int) Check.bit(is));
            case 9 -> call("isShown", () -> Check.bit(scene.isShown(node)), () -> model.isShown(node), node);
            case 10 -> call("strength", () -> scene.strength(node), () -> model.strength(node), node);
            case 11 -> {
                int place = from(0, Math.max(1, scene.nodes()));
                call("orderAt", () -> scene.orderAt(place), () -> model.orderAt(place), place);
            }
            case 12 -> call("placeOf", () -> scene.placeOf(node), () -> model.placeOf(node), node);
            case 13 -> {
                int from = draw.nextBoolean() ? from(0, 30) : from(0, 9999);
                int to = draw.nextBoolean() ? from(0, 30) : from(0, 9999);
                call("changes", () -> scene.changes(from, to), () -> model.changes(from, to), from, to);
            }
            case 14 -> call("size", () -> Double.doubleToLongBits(scene.size(node)),
                    () -> Double.doubleToLongBits(model.size(node)), node);
            case 15, 16, 17 -> askWhere(which - 15, node, other);
            default -> askSpot(which - 18, node);
        }
    }

    private void askWhere(int which, int node, int other) {
        int x = from(-1000, 1000);
        int y = from(-1000, 1000);
        int what = from(0, 3);
        switch (which) {
            case 0 -> call("toWhole", () -> scene.toWhole(node, x, y, what), () -> model.toWhole(node, x, y, what),
                    node, x, y, what);
            case 1 -> call("fromWhole", () -> scene.fromWhole(node, x, y, what),
                    () -> model.fromWhole(node, x, y, what), node, x, y, what);
            default -> call("between", () -> scene.between(node, other, x, y, what),
                    () -> model.between(node, other, x, y, what), node, other, x, y, what);
        }
    }

    private void askSpot(int which, int node) {
        int under = draw.nextBoolean() ? from(1, 4) : from(1, 60);
        int[] at = spotIn(node, Math.max(1, Math.min(60, under)));
        int x = at[0];
        int y = at[1];
        int most = from(1, draw.nextInt(5) == 0 ? 100 : 20);
        switch (which) {
            case 0, 1 -> call("covers", () -> Check.bit(scene.covers(node, x, y, under)),
                    () -> model.covers(node, x, y, under), node, x, y, under);
            case 2 -> call("pick", () -> scene.pick(x, y, under), () -> model.pick(x, y, under), x, y, under);
            case 3 -> call("many", () -> scene.many(x, y, under), () -> model.many(x, y, under), x, y, under);
            case 4 -> call("through", () -> scene.through(x, y, under), () -> model.through(x, y, under), x, y, under);
            case 5, 6 -> call("pickWithout", () -> scene.pickWithout(node, x, y, under),
                    () -> model.pickWithout(node, x, y, under), node, x, y, under);
            default -> call("nextPick", () -> scene.nextPick(x, y, under, most),
                    () -> model.nextPick(x, y, under, most), x, y, under, most);
        }
    }

    /** Mostly a place at which something is: a bound of the node or between two, sometimes anywhere. */
    private int[] spotIn(int node, int under) {
        int[] at = {from(-300 * under, 300 * under), from(-300 * under, 300 * under)};
        if (node < 0 || node >= scene.added() || draw.nextInt(3) == 0) {
            return at;
        }
        try {
            for (int axis = 0; axis < 2; axis++) {
                int least = bound(node, axis, under);
                int most = bound(node, axis + 2, under);
                at[axis] = switch (draw.nextInt(4)) {
                    case 0 -> least;
                    case 1 -> most;
                    default -> least + draw.nextInt(Math.max(1, most - least + 1));
                };
            }
        } catch (IndexOutOfBoundsException gone) {
            return at;
        }
        return at;
    }

    private int bound(int node, int side, int under) {
        int least = scene.bound(node, side, true);
        return least == 0 ? 0 : scene.bound(node, side, false) * under / least;
    }

    private int node() {
        return from(0, scene.added() - 1);
    }

    private int from(int least, int most) {
        if (draw.nextInt(wrongOf) == 0) {
            return switch (draw.nextInt(4)) {
                case 0 -> least - 1;
                case 1 -> most + 1;
                case 2 -> Integer.MIN_VALUE;
                default -> Integer.MAX_VALUE;
            };
        }
        return draw.nextInt(12) == 0 ? (draw.nextBoolean() ? least : most) : least + draw.nextInt(most - least + 1);
    }

    private void call(String name, java.util.function.LongSupplier got, java.util.function.LongSupplier due,
            int... arguments) {
        String call = run + name + java.util.Arrays.toString(arguments);
        String answer = Check.told(got);
        Check.compare(call, answer, Check.told(due));
        if (answer.endsWith("Exception") && draw.nextInt(10) == 0) {
            same("digest() after " + call, scene.digest(), model.digest());
        }
    }

    private void same(String call, long got, long due) {
        Check.compare(run + call, Long.toString(got), Long.toString(due));
    }
}
