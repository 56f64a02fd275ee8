import java.math.BigInteger;
import java.util.ArrayList;
import java.util.Comparator;
import java.util.List;
import java.util.TreeMap;

/**
 * The document's words, taken one after the other and worked out anew at every question: slow, and written
 * without a look at the class, so that the two can be held against each other.
 */
final class SceneModel {
    private static final class Thing {
        int kind, w, h, parent = -1, n = 1, d = 1, layer;
        int[] own = {0, 0, 0, 100};
        boolean mirrored, hidden, gone;
        int[] cut;
        List<Integer> hanging = new ArrayList<>();
    }

    private record Line(int node, int property, int ease, int end, TreeMap<Integer, Integer> keys) {
    }

    private record Spot(Ratio x, Ratio y) {
    }

    private static final int[] LEAST = {-200, -200, 0, 0};
    private static final int[] MOST = {200, 200, 3, 100};

    private final List<Thing> things = new ArrayList<>();
    private final List<Line> lines = new ArrayList<>();
    private int time;

    SceneModel() {
        things.add(new Thing());
    }

    // ---- things

    long add(int parent, int kind, int width, int height) {
        need(parent);
        argument(from(kind, 0, 2) && (kind == 0 || from(width, 1, 200) && from(height, 1, 200)));
        state(things.size() < 30 && level(parent) < 4);
        Thing thing = new Thing();
        thing.kind = kind;
        thing.w = width;
        thing.h = height;
        thing.parent = parent;
        things.add(thing);
        things.get(parent).hanging.add(things.size() - 1);
        return things.size() - 1;
    }

    long remove(int node) {
        need(node);
        state(node != 0);
        List<Integer> all = within(node);
        for (int i : all) {
            things.get(i).gone = true;
            for (Line line : lines) {
                if (line.node == i) {
                    line.keys.clear();
                }
            }
        }
        things.get(things.get(node).parent).hanging.remove((Integer) node);
        return all.size();
    }

    long hang(int node, int parent) {
        need(node);
        need(parent);
        state(node != 0 && !within(node).contains(parent));
        long deepest = 0;
        for (int i : within(node)) {
            deepest = Math.max(deepest, level(i) - level(node));
        }
        state(level(parent) + 1 + deepest <= 4);
        things.get(things.get(node).parent).hanging.remove((Integer) node);
        things.get(parent).hanging.add(node);
        things.get(node).parent = parent;
        return things.get(parent).hanging.size();
    }

    long move(int node, int x, int y) {
        Thing thing = changeable(node);
        argument(from(x, -200, 200) && from(y, -200, 200));
        int before = thing.own[0];
        thing.own[0] = x;
        thing.own[1] = y;
        return before;
    }

    long scale(int node, int over, int under) {
        Thing thing = changeable(node);
        argument(from(over, 1, 4) && from(under, 1, 4));
        int before = thing.n * 10 + thing.d;
        thing.n = over;
        thing.d = under;
        return before;
    }

    long turn(int node, int turns, boolean isMirrored) {
        Thing thing = changeable(node);
        argument(from(turns, 0, 3));
        int before = thing.own[2];
        thing.own[2] = turns;
        thing.mirrored = isMirrored;
        return before;
    }

    long look(int node, int layer, int opacity, boolean isHidden) {
        Thing thing = changeable(node);
        argument(from(layer, -9, 9) && from(opacity, 0, 100));
        int before = thing.own[3];
        thing.layer = layer;
        thing.own[3] = opacity;
        thing.hidden = isHidden;
        return before;
    }

    long cut(int node, int l, int t, int r, int b) {
        Thing thing = changeable(node);
        argument(from(l, -200, 200) && from(t, -200, 200) && from(r, -200, 200) && from(b, -200, 200));
        argument(l <= r && t <= b);
        boolean had = thing.cut != null;
        thing.cut = new int[] {l, t, r, b};
        return had ? 1 : 0;
    }

    long uncut(int node) {
        need(node);
        Thing thing = things.get(node);
        boolean had = thing.cut != null;
        thing.cut = null;
        return had ? 1 : 0;
    }

    long added() {
        return things.size();
    }

    long nodes() {
        return things.stream().filter(t -> !t.gone).count();
    }

    long parent(int node) {
        need(node);
        return things.get(node).parent;
    }

    long level(int node) {
        need(node);
        return path(node).size() - 1;
    }

    long common(int one, int other) {
        need(one);
        need(other);
        List<Integer> both = new ArrayList<>(path(one));
        both.retainAll(path(other));
        return both.get(both.size() - 1);
    }

    // ---- keys

    long track(int node, int property, int ease, int end) {
        need(node);
        argument(from(property, 0, 3) && from(ease, 0, 2) && from(end, 0, 2));
        state(node != 0 && lines.size() < 12 && lineOf(node, property) == null);
        lines.add(new Line(node, property, ease, end, new TreeMap<>()));
        return lines.size() - 1;
    }

    long key(int track, int at, int value) {
        Line line = line(track);
        argument(from(at, 0, 999) && from(value, LEAST[line.property], MOST[line.property]));
        state(!things.get(line.node).gone && (line.keys.size() < 8 || line.keys.containsKey(at)));
        line.keys.put(at, value);
        return line.keys.size();
    }

    long unkey(int track, int at) {
        Line line = line(track);
        state(line.keys.containsKey(at));
        return line.keys.remove(at);
    }

    long setTime(int to) {
        argument(from(to, 0, 9999));
        int before = time;
        time = to;
        return before;
    }

    long tracks() {
        return lines.size();
    }

    long now(int node, int property) {
        need(node);
        argument(from(property, 0, 3));
        return value(node, property, time);
    }

    long nextKey() {
        long least = -1;
        for (Line line : lines) {
            Integer next = line.keys.higherKey(time);
            if (next != null && (least < 0 || next < least)) {
                least = next;
            }
        }
        return least;
    }

    private int value(int node, int property, int at) {
        Line line = lineOf(node, property);
        return line == null || line.keys.isEmpty() ? things.get(node).own[property] : told(line, at);
    }

    private int told(Line line, int at) {
        TreeMap<Integer, Integer> keys = line.keys;
        int f = keys.firstKey();
        int g = keys.lastKey();
        int u = at;
        if (keys.size() == 1 || u < f) {
            return keys.get(f);
        }
        if (u > g) {
            if (line.end == 0) {
                return keys.get(g);
            }
            int v = (u - f) % (line.end == 1 ? g - f : 2 * (g - f));
            u = line.end == 1 || v <= g - f ? f + v : f + 2 * (g - f) - v;
        }
        if (keys.containsKey(u)) {
            return keys.get(u);
        }
        int a = keys.lowerKey(u);
        int b = keys.higherKey(u);
        BigInteger rise = BigInteger.valueOf(keys.get(b) - keys.get(a));
        BigInteger p = BigInteger.valueOf(u - a);
        BigInteger q = BigInteger.valueOf(b - a);
        BigInteger more = BigInteger.ZERO;
        if (line.ease == 1) {
            more = rise.multiply(p).divide(q);
        } else if (line.ease == 2) {
            BigInteger bent = q.multiply(BigInteger.valueOf(3)).subtract(p.multiply(BigInteger.TWO));
            more = rise.multiply(p).multiply(p).multiply(bent).divide(q.pow(3));
        }
        return keys.get(a) + more.intValueExact();
    }

    // ---- where

    long toWhole(int node, int x, int y, int what) {
        need(node);
        checkPoint(x, y, what);
        return part(up(node, new Spot(Ratio.of(x), Ratio.of(y))), what);
    }

    long fromWhole(int node, int x, int y, int what) {
        need(node);
        checkPoint(x, y, what);
        return part(down(node, new Spot(Ratio.of(x), Ratio.of(y)), time), what);
    }

    long between(int node, int other, int x, int y, int what) {
        need(node);
        need(other);
        checkPoint(x, y, what);
        return part(down(other, up(node, new Spot(Ratio.of(x), Ratio.of(y))), time), what);
    }

    long bound(int node, int side, boolean isUnder) {
        need(node);
        argument(from(side, 0, 3));
        List<Ratio> all = new ArrayList<>();
        for (int i : within(node)) {
            Thing thing = things.get(i);
            if (thing.kind != 0 && shown(i, time, -1)) {
                int[][] corners = {{0, 0}, {thing.w, 0}, {0, thing.h}, {thing.w, thing.h}};
                for (int c = 0; c < (thing.kind == 1 ? 4 : 3); c++) {
                    Spot spot = up(i, new Spot(Ratio.of(corners[c][0]), Ratio.of(corners[c][1])));
                    all.add(side % 2 == 0 ? spot.x : spot.y);
                }
            }
        }
        if (all.isEmpty()) {
            return 0;
        }
        all.sort(Comparator.naturalOrder());
        Ratio bound = side < 2 ? all.get(0) : all.get(all.size() - 1);
        return (isUnder ? bound.under() : bound.over()).longValueExact();
    }

    double size(int node) {
        need(node);
        Ratio size = Ratio.of(1);
        for (int i : path(node)) {
            size = size.times(Ratio.of(things.get(i).n, things.get(i).d));
        }
        return size.over().doubleValue() / size.under().doubleValue();
    }

    private Spot up(int node, Spot spot) {
        List<Integer> path = path(node);
        Spot at = spot;
        for (int i = path.size() - 1; i >= 0; i--) {
            Thing thing = things.get(path.get(i));
            Ratio size = Ratio.of(thing.n, thing.d);
            at = new Spot(at.x.times(size), at.y.times(size));
            if (thing.mirrored) {
                at = new Spot(at.x.negated(), at.y);
            }
            for (int k = 0; k < value(path.get(i), 2, time); k++) {
                at = new Spot(at.y.negated(), at.x);
            }
            at = new Spot(at.x.plus(Ratio.of(value(path.get(i), 0, time))),
                    at.y.plus(Ratio.of(value(path.get(i), 1, time))));
        }
        return at;
    }

    private Spot down(int node, Spot spot, int when) {
        Spot at = spot;
        for (int i : path(node)) {
            Thing thing = things.get(i);
            at = new Spot(at.x.minus(Ratio.of(value(i, 0, when))), at.y.minus(Ratio.of(value(i, 1, when))));
            for (int k = 0; k < value(i, 2, when); k++) {
                at = new Spot(at.y, at.x.negated());
            }
            if (thing.mirrored) {
                at = new Spot(at.x.negated(), at.y);
            }
            Ratio size = Ratio.of(thing.d, thing.n);
            at = new Spot(at.x.times(size), at.y.times(size));
        }
        return at;
    }

    private static long part(Spot spot, int what) {
        Ratio one = what < 2 ? spot.x : spot.y;
        return (what % 2 == 0 ? one.over() : one.under()).intValueExact();
    }

    // ---- drawing

    long isShown(int node) {
        need(node);
        return shown(node, time, -1) ? 1 : 0;
    }

    long strength(int node) {
        need(node);
        int strength = 100;
        for (int i : path(node)) {
            strength = strength * value(i, 3, time) / 100;
        }
        return strength;
    }

    long orderAt(int place) {
        List<Integer> order = order(0);
        if (place < 0 || place >= order.size()) {
            throw new IndexOutOfBoundsException();
        }
        return order.get(place);
    }

    long placeOf(int node) {
        need(node);
        return order(0).indexOf(node);
    }

    long covers(int node, int x, int y, int under) {
        need(node);
        checkSpot(x, y, under);
        return covering(x, y, under, time, -1).contains(node) ? 1 : 0;
    }

    long pick(int x, int y, int under) {
        checkSpot(x, y, under);
        return lastOf(covering(x, y, under, time, -1));
    }

    long many(int x, int y, int under) {
        checkSpot(x, y, under);
        return covering(x, y, under, time, -1).size();
    }

    long through(int x, int y, int under) {
        checkSpot(x, y, under);
        List<Integer> all = covering(x, y, under, time, -1);
        long left = 10000;
        for (int i = all.size() - 1; i >= 0; i--) {
            left = left * (100 - strength(all.get(i))) / 100;
        }
        return left;
    }

    private boolean shown(int node, int when, int hiddenToo) {
        for (int i : path(node)) {
            if (things.get(i).hidden || i == hiddenToo || value(i, 3, when) == 0) {
                return false;
            }
        }
        return true;
    }

    /** Those that cover the place, in the order. */
    private List<Integer> covering(int x, int y, int under, int when, int hiddenToo) {
        Spot spot = new Spot(Ratio.of(x, under), Ratio.of(y, under));
        List<Integer> all = new ArrayList<>();
        for (int i : order(0)) {
            if (things.get(i).kind != 0 && shown(i, when, hiddenToo) && inShape(i, down(i, spot, when))
                    && inCuts(i, spot, when)) {
                all.add(i);
            }
        }
        return all;
    }

    private boolean inShape(int node, Spot spot) {
        Thing thing = things.get(node);
        Ratio w = Ratio.of(thing.w);
        Ratio h = Ratio.of(thing.h);
        boolean isInBox = spot.x.isFrom(Ratio.of(0), w) && spot.y.isFrom(Ratio.of(0), h);
        return isInBox && (thing.kind == 1
                || spot.x.times(h).plus(spot.y.times(w)).compareTo(w.times(h)) <= 0);
    }

    private boolean inCuts(int node, Spot spot, int when) {
        for (int i : path(node)) {
            int[] cut = things.get(i).cut;
            Spot at = down(i, spot, when);
            if (cut != null && !(at.x.isFrom(Ratio.of(cut[0]), Ratio.of(cut[2]))
                    && at.y.isFrom(Ratio.of(cut[1]), Ratio.of(cut[3])))) {
                return false;
            }
        }
        return true;
    }

    private static long lastOf(List<Integer> all) {
        return all.isEmpty() ? -1 : all.get(all.size() - 1);
    }

    // ---- what changes, and what would be

    long changes(int from, int to) {
        argument(from(from, 0, 9999) && from(to, 0, 9999));
        long changed = 0;
        for (int i : within(0)) {
            boolean isOther = false;
            for (int k : path(i)) {
                for (int property = 0; property < 4; property++) {
                    isOther |= value(k, property, from) != value(k, property, to);
                }
            }
            changed += isOther ? 1 : 0;
        }
        return changed;
    }

    long pickWithout(int node, int x, int y, int under) {
        need(node);
        checkSpot(x, y, under);
        return lastOf(covering(x, y, under, time, node));
    }

    long nextPick(int x, int y, int under, int most) {
        checkSpot(x, y, under);
        argument(from(most, 1, 100));
        long now = lastOf(covering(x, y, under, time, -1));
        for (int i = 1; i <= most && time + i <= 9999; i++) {
            if (lastOf(covering(x, y, under, time + i, -1)) != now) {
                return time + i;
            }
        }
        return -1;
    }

    long digest() {
        List<Long> values = new ArrayList<>(List.of(added(), nodes(), tracks(), nextKey()));
        for (int i = 0; i < things.size(); i++) {
            if (!things.get(i).gone) {
                values.addAll(List.of((long) i, parent(i), level(i)));
                values.addAll(List.of(now(i, 0), now(i, 1), now(i, 2), now(i, 3)));
                values.addAll(List.of(isShown(i), strength(i), placeOf(i)));
                for (int what = 0; what < 4; what++) {
                    values.add(toWhole(i, 1, 2, what));
                }
                for (int what = 0; what < 4; what++) {
                    values.add(fromWhole(i, 1, 2, what));
                }
                for (int side = 0; side < 4; side++) {
                    values.add(bound(i, side, false));
                    values.add(bound(i, side, true));
                }
            }
        }
        for (int i = 0; i < 10; i++) {
            values.add(pick(10 * i, 10 * i, 1));
        }
        values.add(changes(0, 7));
        BigInteger d = BigInteger.valueOf(2647);
        for (long v : values) {
            d = d.multiply(BigInteger.valueOf(31)).add(BigInteger.valueOf(v));
        }
        return d.longValue();
    }

    // ---- what they share

    private List<Integer> path(int node) {
        List<Integer> path = new ArrayList<>();
        for (int i = node; i >= 0; i = things.get(i).parent) {
            path.add(0, i);
        }
        return path;
    }

    /** The node and all that is in it. */
    private List<Integer> within(int node) {
        List<Integer> all = new ArrayList<>(List.of(node));
        for (int i : things.get(node).hanging) {
            all.addAll(within(i));
        }
        return all;
    }

    private List<Integer> order(int node) {
        List<Integer> byLayer = new ArrayList<>(things.get(node).hanging);
        byLayer.sort(Comparator.comparingInt(i -> things.get(i).layer));
        List<Integer> order = new ArrayList<>();
        byLayer.stream().filter(i -> things.get(i).layer < 0).forEach(i -> order.addAll(order(i)));
        order.add(node);
        byLayer.stream().filter(i -> things.get(i).layer >= 0).forEach(i -> order.addAll(order(i)));
        return order;
    }

    private Line line(int track) {
        if (track < 0 || track >= lines.size()) {
            throw new IndexOutOfBoundsException();
        }
        return lines.get(track);
    }

    private Line lineOf(int node, int property) {
        for (Line line : lines) {
            if (line.node == node && line.property == property) {
                return line;
            }
        }
        return null;
    }

    private Thing changeable(int node) {
        need(node);
        state(node != 0);
        return things.get(node);
    }

    private void need(int node) {
        if (node < 0 || node >= things.size() || things.get(node).gone) {
            throw new IndexOutOfBoundsException();
        }
    }

    private static void checkPoint(int x, int y, int what) {
        argument(from(x, -1000, 1000) && from(y, -1000, 1000) && from(what, 0, 3));
    }

    private static void checkSpot(int x, int y, int under) {
        argument(from(x, -10000, 10000) && from(y, -10000, 10000) && from(under, 1, 60));
    }

    private static void argument(boolean isGood) {
        if (!isGood) {
            throw new IllegalArgumentException();
        }
    }

    private static void state(boolean isGood) {
        if (!isGood) {
            throw new IllegalStateException();
        }
    }

    private static boolean from(int value, int least, int most) {
        return value >= least && value <= most;
    }
}
