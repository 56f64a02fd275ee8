/**
 * A scene of things in things. What it promises stands in ../shared/DOC.md, whose words are used here as they
 * stand there.
 *
 * <p>Rows and scratch objects are made once and used again, since all that a run of calls makes is counted.
 */
public final class TapestryScene {
    private static final int GROUP = 0;
    private static final int BOX = 1;
    private static final int WEDGE = 2;

    private static final int HOLD = 0;
    private static final int EVEN = 1;
    private static final int SOFT = 2;

    private static final int STAY = 0;
    private static final int AGAIN = 1;
    private static final int BACK = 2;

    private static final int MOST_NODES = 30;
    private static final int MOST_TRACKS = 12;
    private static final int MOST_KEYS = 8;
    private static final int MOST_LEVEL = 4;
    private static final int MOST_SIDE = 200;
    private static final int MOST_PLACE = 200;
    private static final int MOST_SCALE = 4;
    private static final int QUARTERS = 4;
    private static final int MOST_LAYER = 9;
    private static final int FULL = 100;
    private static final int MOST_TIME = 9999;
    private static final int MOST_KEY_TIME = 999;
    private static final int MOST_POINT = 1000;
    private static final int MOST_PART = 3;
    private static final int MOST_SPOT = 10000;
    private static final int MOST_UNDER = 60;
    private static final int MOST_LOOKED_AT = 100;
    private static final int ALL_LIGHT = 10000;
    private static final int NONE = -1;

    // Far above the 92 steps that two numbers of 64 bits can need.
    private static final int DIVISOR_STEPS = 200;

    private static final long DIGEST_START = 2647;
    private static final long DIGEST_FACTOR = 31;

    private final Node[] nodes = new Node[MOST_NODES];
    private final Property[] tracks = new Property[MOST_TRACKS];
    private final Node whole = new Node(0, GROUP, 0, 0);
    private final Point point = new Point();
    private final Bounds bounds = new Bounds();
    private int added;
    private int tracked;
    private int time;

    // The ORDER, as a chain from its last NODE on, since looking from above is what it is most asked for.
    private Node last;
    private int ordered;

    public TapestryScene() {
        nodes[0] = whole;
        added = 1;
        last = whole;
        ordered = 1;
    }

    // ---- things

    public int add(int parent, int kind, int width, int height)
            throws IndexOutOfBoundsException, IllegalArgumentException, IllegalStateException {
        Node holder = found(parent);
        if (!isFrom(kind, GROUP, WEDGE)) {
            throw new IllegalArgumentException("no such kind");
        }
        if (kind != GROUP && !(isFrom(width, 1, MOST_SIDE) && isFrom(height, 1, MOST_SIDE))) {
            throw new IllegalArgumentException("width or height is not 1 to 200");
        }
        if (added < 0 || added >= nodes.length || holder.depth() >= MOST_LEVEL) {
            throw new IllegalStateException("30 nodes were added, or the parent is too deep");
        }
        Node node = new Node(added, kind, width, height);
        nodes[added] = node;
        added++;
        holder.takeIn(node);
        layOrder();
        return node.number;
    }

    public int remove(int node) throws IndexOutOfBoundsException, IllegalStateException {
        Node top = foundBelowWhole(node);
        int gone = 0;
        for (Node n = last; n != null; n = n.before) {
            if (n.isWithin(top)) {
                n.vanish();
                gone++;
            }
        }
        top.leaveParent();
        layOrder();
        return gone;
    }

    public int hang(int node, int parent) throws IndexOutOfBoundsException, IllegalStateException {
        Node moved = found(node);
        Node holder = found(parent);
        if (moved == whole || holder.isWithin(moved)) {
            throw new IllegalStateException("a node can't hang in itself, and the whole in none");
        }
        if (holder.depth() + 1 + depthUnder(moved) > MOST_LEVEL) {
            throw new IllegalStateException("a level would be above 4");
        }
        moved.leaveParent();
        holder.takeIn(moved);
        layOrder();
        return holder.countHanging();
    }

    public int move(int node, int x, int y)
            throws IndexOutOfBoundsException, IllegalStateException, IllegalArgumentException {
        Node n = foundBelowWhole(node);
        if (!n.x.allows(x) || !n.y.allows(y)) {
            throw new IllegalArgumentException("x or y is not -200 to 200");
        }
        int before = n.x.own;
        n.x.own = x;
        n.y.own = y;
        return before;
    }

    public int scale(int node, int over, int under)
            throws IndexOutOfBoundsException, IllegalStateException, IllegalArgumentException {
        Node n = foundBelowWhole(node);
        if (!isFrom(over, 1, MOST_SCALE) || !isFrom(under, 1, MOST_SCALE)) {
            throw new IllegalArgumentException("over or under is not 1 to 4");
        }
        int before = n.over * 10 + n.under;
        n.over = over;
        n.under = under;
        return before;
    }

    public int turn(int node, int turns, boolean isMirrored)
            throws IndexOutOfBoundsException, IllegalStateException, IllegalArgumentException {
        Node n = foundBelowWhole(node);
        if (!n.turns.allows(turns)) {
            throw new IllegalArgumentException("turns is not 0 to 3");
        }
        int before = n.turns.own;
        n.turns.own = turns;
        n.isMirrored = isMirrored;
        return before;
    }

    public int look(int node, int layer, int opacity, boolean isHidden)
            throws IndexOutOfBoundsException, IllegalStateException, IllegalArgumentException {
        Node n = foundBelowWhole(node);
        if (!isFrom(layer, -MOST_LAYER, MOST_LAYER) || !n.opacity.allows(opacity)) {
            throw new IllegalArgumentException("layer is not -9 to 9, or opacity not 0 to 100");
        }
        int before = n.opacity.own;
        n.layer = layer;
        n.opacity.own = opacity;
        n.isHidden = isHidden;
        layOrder();
        return before;
    }

    public boolean cut(int node, int left, int top, int right, int bottom)
            throws IndexOutOfBoundsException, IllegalStateException, IllegalArgumentException {
        Node n = foundBelowWhole(node);
        // Since left is not above right, nor top above bottom, a limit on one side of each holds for both.
        if (left < -MOST_PLACE || right > MOST_PLACE || left > right) {
            throw new IllegalArgumentException("left or right is not -200 to 200, or left above right");
        }
        if (top < -MOST_PLACE || bottom > MOST_PLACE || top > bottom) {
            throw new IllegalArgumentException("top or bottom is not -200 to 200, or top above bottom");
        }
        boolean wasCut = n.cut != null;
        n.cut = new Frame(left, top, right, bottom);
        return wasCut;
    }

    public boolean uncut(int node) throws IndexOutOfBoundsException {
        Node n = found(node);
        boolean wasCut = n.cut != null;
        n.cut = null;
        return wasCut;
    }

    public int added() {
        return added;
    }

    public int nodes() {
        return ordered;
    }

    public int parent(int node) throws IndexOutOfBoundsException {
        return parentNumber(found(node));
    }

    public int level(int node) throws IndexOutOfBoundsException {
        return found(node).depth();
    }

    public int common(int one, int other) throws IndexOutOfBoundsException {
        Node first = found(one);
        Node second = found(other);
        for (Node n = first; n != null; n = n.parent) {
            if (second.isWithin(n)) {
                return n.number;
            }
        }
        return whole.number;
    }

    // ---- keys

    public int track(int node, int property, int ease, int end)
            throws IndexOutOfBoundsException, IllegalArgumentException, IllegalStateException {
        Node n = found(node);
        Property held = n.property(property);
        if (held == null || !isFrom(ease, HOLD, SOFT) || !isFrom(end, STAY, BACK)) {
            throw new IllegalArgumentException("no such property, ease or end");
        }
        if (n == whole || held.isTracked || tracked < 0 || tracked >= tracks.length) {
            throw new IllegalStateException("the whole, 12 tracks, or one of this property");
        }
        held.isTracked = true;
        held.ease = ease;
        held.end = end;
        tracks[tracked] = held;
        tracked++;
        return tracked - 1;
    }

    public int key(int track, int time, int value)
            throws IndexOutOfBoundsException, IllegalArgumentException, IllegalStateException {
        Property held = foundTrack(track);
        if (!isFrom(time, 0, MOST_KEY_TIME) || !held.allows(value)) {
            throw new IllegalArgumentException("time is not 0 to 999, or the property can't have the value");
        }
        if (held.isOver || (held.keyCount >= MOST_KEYS && held.keyAt(time) == null)) {
            throw new IllegalStateException("the node is gone, or there are 8 keys");
        }
        held.putKey(time, value);
        return held.keyCount;
    }

    public int unkey(int track, int time) throws IndexOutOfBoundsException, IllegalStateException {
        Property held = foundTrack(track);
        Key key = held.keyAt(time);
        if (key == null) {
            throw new IllegalStateException("no key at this time");
        }
        held.dropKey(key);
        return key.value;
    }

    public int setTime(int time) throws IllegalArgumentException {
        checkTime(time);
        int before = this.time;
        this.time = time;
        return before;
    }

    public int tracks() {
        return tracked;
    }

    public int now(int node, int property) throws IndexOutOfBoundsException, IllegalArgumentException {
        Property held = found(node).property(property);
        if (held == null) {
            throw new IllegalArgumentException("no such property");
        }
        return held.at(time);
    }

    public int nextKey() {
        int least = NONE;
        for (int i = 0; i < tracked && i < tracks.length; i++) {
            int next = tracks[i] == null ? NONE : tracks[i].nextKeyTime(time);
            if (next != NONE && (least == NONE || next < least)) {
                least = next;
            }
        }
        return least;
    }

    // ---- where

    public int toWhole(int node, int x, int y, int what)
            throws IndexOutOfBoundsException, IllegalArgumentException {
        Node n = found(node);
        checkPoint(x, y, what);
        raise(n, x, y);
        return (int) point.part(what);
    }

    public int fromWhole(int node, int x, int y, int what)
            throws IndexOutOfBoundsException, IllegalArgumentException {
        Node n = found(node);
        checkPoint(x, y, what);
        point.set(x, y, 1);
        sink(point, n, time, 0);
        return (int) point.part(what);
    }

    public int between(int node, int other, int x, int y, int what)
            throws IndexOutOfBoundsException, IllegalArgumentException {
        Node from = found(node);
        Node to = found(other);
        checkPoint(x, y, what);
        raise(from, x, y);
        sink(point, to, time, 0);
        return (int) point.part(what);
    }

    public int bound(int node, int side, boolean isUnder)
            throws IndexOutOfBoundsException, IllegalArgumentException {
        Node n = found(node);
        if (!isFrom(side, 0, MOST_PART)) {
            throw new IllegalArgumentException("side is not 0 to 3");
        }
        gatherBounds(n);
        Fraction bound = bounds.side(side);
        return (int) (isUnder ? bound.under : bound.over);
    }

    // ---- drawing

    public boolean isShown(int node) throws IndexOutOfBoundsException {
        return found(node).isShownAt(time);
    }

    public int strength(int node) throws IndexOutOfBoundsException {
        return strengthOf(found(node), time, 0);
    }

    public int orderAt(int place) throws IndexOutOfBoundsException {
        for (Node n = last; n != null; n = n.before) {
            if (n.place == place) {
                return n.number;
            }
        }
        throw new IndexOutOfBoundsException("no such place");
    }

    public int placeOf(int node) throws IndexOutOfBoundsException {
        return found(node).place;
    }

    public boolean covers(int node, int x, int y, int under)
            throws IndexOutOfBoundsException, IllegalArgumentException {
        Node n = found(node);
        checkSpot(x, y, under);
        return coversAt(n, x, y, under, time);
    }

    public int pick(int x, int y, int under) throws IllegalArgumentException {
        checkSpot(x, y, under);
        return topAt(x, y, under, time, null);
    }

    public int many(int x, int y, int under) throws IllegalArgumentException {
        checkSpot(x, y, under);
        int covering = 0;
        for (Node n = last; n != null; n = n.before) {
            if (coversAt(n, x, y, under, time)) {
                covering++;
            }
        }
        return covering;
    }

    public int through(int x, int y, int under) throws IllegalArgumentException {
        checkSpot(x, y, under);
        int left = ALL_LIGHT;
        for (Node n = last; n != null; n = n.before) {
            if (coversAt(n, x, y, under, time)) {
                left = left * (FULL - strengthOf(n, time, 0)) / FULL;
            }
        }
        return left;
    }

    // ---- what changes, and what would be (nothing is changed)

    public int changes(int from, int to) throws IllegalArgumentException {
        checkTime(from);
        checkTime(to);
        int changed = 0;
        for (Node n = last; n != null; n = n.before) {
            if (n.differs(from, to)) {
                changed++;
            }
        }
        return changed;
    }

    public int pickWithout(int node, int x, int y, int under)
            throws IndexOutOfBoundsException, IllegalArgumentException {
        Node without = found(node);
        checkSpot(x, y, under);
        return topAt(x, y, under, time, without);
    }

    public int nextPick(int x, int y, int under, int most) throws IllegalArgumentException {
        checkSpot(x, y, under);
        if (!isFrom(most, 1, MOST_LOOKED_AT)) {
            throw new IllegalArgumentException("most is not 1 to 100");
        }
        int top = topAt(x, y, under, time, null);
        int end = Math.min(time + most, MOST_TIME);
        for (int t = time + 1; t <= end; t++) {
            // Most times nothing is told anew, and finding that out is far cheaper than looking.
            if (isToldAnew(t) && topAt(x, y, under, t, null) != top) {
                return t;
            }
        }
        return NONE;
    }

    public double size(int node) throws IndexOutOfBoundsException {
        int over = 1;
        int under = 1;
        for (Node n = found(node); n != null; n = n.parent) {
            over *= n.over;
            under *= n.under;
        }
        return (double) over / (double) under;
    }

    public long digest() {
        long d = mixed(DIGEST_START, added);
        d = mixed(d, ordered);
        d = mixed(d, tracked);
        d = mixed(d, nextKey());
        for (int i = 0; i < added; i++) {
            Node n = nodeOrNull(i);
            if (n != null) {
                d = mixedWithNode(d, n);
            }
        }
        for (int at = 0; at <= 90; at += 10) {
            d = mixed(d, topAt(at, at, 1, time, null));
        }
        return mixed(d, changes(0, 7));
    }

    // ---- what the arguments must be

    private Node nodeOrNull(int number) {
        if (number < 0 || number >= nodes.length) {
            return null;
        }
        Node node = nodes[number];
        return node == null || node.isGone ? null : node;
    }

    private Node found(int number) {
        Node node = nodeOrNull(number);
        if (node == null) {
            throw new IndexOutOfBoundsException("no such node, or it is gone");
        }
        return node;
    }

    private Node foundBelowWhole(int number) {
        Node node = found(number);
        if (node == whole) {
            throw new IllegalStateException("it is the whole");
        }
        return node;
    }

    private Property foundTrack(int number) {
        Property track = number < 0 || number >= tracks.length ? null : tracks[number];
        if (track == null) {
            throw new IndexOutOfBoundsException("no such track");
        }
        return track;
    }

    private static boolean isFrom(int value, int least, int most) {
        return value >= least && value <= most;
    }

    private static void checkTime(int time) {
        if (!isFrom(time, 0, MOST_TIME)) {
            throw new IllegalArgumentException("a time is not 0 to 9999");
        }
    }

    private static void checkPoint(int x, int y, int what) {
        if (!isFrom(x, -MOST_POINT, MOST_POINT) || !isFrom(y, -MOST_POINT, MOST_POINT)) {
            throw new IllegalArgumentException("x or y is not -1000 to 1000");
        }
        if (!isFrom(what, 0, MOST_PART)) {
            throw new IllegalArgumentException("what is not 0 to 3");
        }
    }

    private static void checkSpot(int x, int y, int under) {
        if (!isFrom(x, -MOST_SPOT, MOST_SPOT) || !isFrom(y, -MOST_SPOT, MOST_SPOT)) {
            throw new IllegalArgumentException("x or y is not -10000 to 10000");
        }
        if (!isFrom(under, 1, MOST_UNDER)) {
            throw new IllegalArgumentException("under is not 1 to 60");
        }
    }

    // ---- the tree and the ORDER

    private static int parentNumber(Node node) {
        return node.parent == null ? NONE : node.parent.number;
    }

    private int depthUnder(Node top) {
        int deepest = top.depth();
        for (Node n = last; n != null; n = n.before) {
            if (n.isWithin(top)) {
                deepest = Math.max(deepest, n.depth());
            }
        }
        return deepest - top.depth();
    }

    private void layOrder() {
        last = null;
        ordered = 0;
        lay(whole, 0);
    }

    private void lay(Node node, int depth) {
        if (depth > MOST_LEVEL) {
            return;
        }
        layHanging(node, -MOST_LAYER, -1, depth + 1);
        node.before = last;
        node.place = ordered;
        last = node;
        ordered++;
        layHanging(node, 0, MOST_LAYER, depth + 1);
    }

    private void layHanging(Node node, int fromLayer, int toLayer, int depth) {
        for (int layer = fromLayer; layer <= toLayer; layer++) {
            for (Node n = node.firstHanging; n != null; n = n.nextHanging) {
                if (n.layer == layer) {
                    lay(n, depth);
                }
            }
        }
    }

    // ---- points and looks at a time

    /** Leaves in the scratch point where a point of the node comes in the whole. */
    private void raise(Node node, int x, int y) {
        point.set(x, y, 1);
        for (Node n = node; n != null; n = n.parent) {
            point.leave(n, time);
        }
    }

    /** Makes a point of the whole the same one of the node. */
    private static void sink(Point point, Node node, int time, int depth) {
        if (node.parent != null && depth < MOST_LEVEL) {
            sink(point, node.parent, time, depth + 1);
        }
        point.enter(node, time);
    }

    private void gatherBounds(Node top) {
        bounds.clear();
        for (Node n = last; n != null; n = n.before) {
            if (n.kind != GROUP && n.isWithin(top) && n.isShownAt(time)) {
                // A wedge touches all four sides of its box, and so do both after any quarter turns.
                raise(n, n.frame.left, n.frame.top);
                bounds.include(point);
                raise(n, n.frame.right, n.frame.bottom);
                bounds.include(point);
            }
        }
    }

    private static int strengthOf(Node node, int time, int depth) {
        boolean isOutermost = node.parent == null || depth >= MOST_LEVEL;
        int outside = isOutermost ? FULL : strengthOf(node.parent, time, depth + 1);
        return outside * node.opacity.at(time) / FULL;
    }

    private boolean coversAt(Node node, int x, int y, int under, int time) {
        if (node.kind == GROUP || !node.isShownAt(time)) {
            return false;
        }
        point.set(x, y, under);
        sink(point, node, time, 0);
        return !point.isCutAway && node.owns(point);
    }

    /** What lies on top, with the node named last, and all that is in it, left out; it may be null. */
    private int topAt(int x, int y, int under, int time, Node without) {
        for (Node n = last; n != null; n = n.before) {
            if (!n.isWithin(without) && coversAt(n, x, y, under, time)) {
                return n.number;
            }
        }
        return NONE;
    }

    private boolean isToldAnew(int other) {
        for (int i = 0; i < tracked && i < tracks.length; i++) {
            if (tracks[i] != null && tracks[i].differs(time, other)) {
                return true;
            }
        }
        return false;
    }

    // ---- the checksum

    private static long mixed(long d, long v) {
        return d * DIGEST_FACTOR + v;
    }

    private long mixedWithNode(long start, Node node) {
        long d = mixed(start, node.number);
        d = mixed(d, parentNumber(node));
        d = mixed(d, node.depth());
        d = mixed(d, node.x.at(time));
        d = mixed(d, node.y.at(time));
        d = mixed(d, node.turns.at(time));
        d = mixed(d, node.opacity.at(time));
        d = mixed(d, node.isShownAt(time) ? 1 : 0);
        d = mixed(d, strengthOf(node, time, 0));
        d = mixed(d, node.place);
        raise(node, 1, 2);
        d = mixedWithPoint(d);
        point.set(1, 2, 1);
        sink(point, node, time, 0);
        d = mixedWithPoint(d);
        gatherBounds(node);
        for (int side = 0; side <= MOST_PART; side++) {
            Fraction bound = bounds.side(side);
            d = mixed(mixed(d, bound.over), bound.under);
        }
        return d;
    }

    private long mixedWithPoint(long start) {
        long d = start;
        for (int what = 0; what <= MOST_PART; what++) {
            d = mixed(d, point.part(what));
        }
        return d;
    }

    /** The greatest number that divides both, at least 1, so that it can always divide. */
    private static long commonDivisor(long one, long other) {
        long a = one < 0 ? -one : one;
        long b = other < 0 ? -other : other;
        for (int step = 0; step < DIVISOR_STEPS && b != 0; step++) {
            long rest = a % b;
            a = b;
            b = rest;
        }
        return a > 0 ? a : 1;
    }

    /** A node, with its links in the tree and in the order. */
    private static final class Node {
        final int number;
        final int kind;
        final Frame frame;
        final Property x = new Property(0, -MOST_PLACE, MOST_PLACE);
        final Property y = new Property(0, -MOST_PLACE, MOST_PLACE);
        final Property turns = new Property(0, 0, QUARTERS - 1);
        final Property opacity = new Property(FULL, 0, FULL);
        int over = 1;
        int under = 1;
        boolean isMirrored;
        int layer;
        boolean isHidden;
        Frame cut;
        boolean isGone;
        Node parent;
        Node firstHanging;
        Node nextHanging;
        Node before;
        int place;

        Node(int number, int kind, int width, int height) {
            this.number = number;
            this.kind = kind;
            this.frame = new Frame(0, 0, width, height);
        }

        Property property(int number) {
            switch (number) {
                case 0:
                    return x;
                case 1:
                    return y;
                case 2:
                    return turns;
                case 3:
                    return opacity;
                default:
                    return null;
            }
        }

        int depth() {
            int above = 0;
            for (Node n = parent; n != null; n = n.parent) {
                above++;
            }
            return above;
        }

        /** Whether it is the other one, or in it; no node is within null. */
        boolean isWithin(Node other) {
            for (Node n = this; n != null; n = n.parent) {
                if (n == other) {
                    return true;
                }
            }
            return false;
        }

        void takeIn(Node child) {
            Node hindmost = null;
            for (Node n = firstHanging; n != null; n = n.nextHanging) {
                hindmost = n;
            }
            if (hindmost == null) {
                firstHanging = child;
            } else {
                hindmost.nextHanging = child;
            }
            child.nextHanging = null;
            child.parent = this;
        }

        void leaveParent() {
            if (parent == null) {
                return;
            }
            if (parent.firstHanging == this) {
                parent.firstHanging = nextHanging;
            }
            for (Node n = parent.firstHanging; n != null; n = n.nextHanging) {
                if (n.nextHanging == this) {
                    n.nextHanging = nextHanging;
                }
            }
            nextHanging = null;
        }

        int countHanging() {
            int count = 0;
            for (Node n = firstHanging; n != null; n = n.nextHanging) {
                count++;
            }
            return count;
        }

        void vanish() {
            isGone = true;
            x.endTrack();
            y.endTrack();
            turns.endTrack();
            opacity.endTrack();
        }

        boolean isShownAt(int time) {
            for (Node n = this; n != null; n = n.parent) {
                if (n.isHidden || n.opacity.at(time) == 0) {
                    return false;
                }
            }
            return true;
        }

        /** Whether what keys can move is not the same at both times, of it or of one in which it is. */
        boolean differs(int from, int to) {
            for (Node n = this; n != null; n = n.parent) {
                if (n.x.differs(from, to) || n.y.differs(from, to)
                        || n.turns.differs(from, to) || n.opacity.differs(from, to)) {
                    return true;
                }
            }
            return false;
        }

        boolean owns(Point point) {
            return kind != GROUP && frame.holds(point) && (kind == BOX || frame.isAheadOfSlope(point));
        }
    }

    /** One of the four things of a node that keys can move, with the track of it, once it has one. */
    private static final class Property {
        final int least;
        final int most;
        int own;
        boolean isTracked;
        boolean isOver;
        int ease;
        int end;
        Key firstKey;
        int keyCount;

        Property(int own, int least, int most) {
            this.own = own;
            this.least = least;
            this.most = most;
        }

        boolean allows(int value) {
            return isFrom(value, least, most);
        }

        Key keyAt(int time) {
            Key key = lastKeyUpTo(time);
            return key == null || key.time != time ? null : key;
        }

        void putKey(int time, int value) {
            Key ahead = lastKeyUpTo(time);
            if (ahead != null && ahead.time == time) {
                ahead.value = value;
                return;
            }
            Key key = new Key(time, value);
            if (ahead == null) {
                key.next = firstKey;
                firstKey = key;
            } else {
                key.next = ahead.next;
                ahead.next = key;
            }
            keyCount++;
        }

        void dropKey(Key key) {
            if (firstKey == key) {
                firstKey = key.next;
            }
            for (Key k = firstKey; k != null; k = k.next) {
                if (k.next == key) {
                    k.next = key.next;
                }
            }
            keyCount--;
        }

        void endTrack() {
            isOver = true;
            firstKey = null;
            keyCount = 0;
        }

        int nextKeyTime(int time) {
            for (Key k = firstKey; k != null; k = k.next) {
                if (k.time > time) {
                    return k.time;
                }
            }
            return NONE;
        }

        boolean differs(int oneTime, int otherTime) {
            return firstKey != null && at(oneTime) != at(otherTime);
        }

        int at(int time) {
            if (firstKey == null) {
                return own;
            }
            int counted = time;
            Key a = lastKeyUpTo(time);
            if (a != null && a.next == null) {
                counted = countedTime(time, firstKey.time, a.time);
                a = lastKeyUpTo(counted);
            }
            return a == null ? firstKey.value : valueFrom(a, counted);
        }

        /** What a time at the last key or above it counts as, by the END. */
        private int countedTime(int time, int firstTime, int lastTime) {
            int span = lastTime - firstTime;
            if (end == STAY || time <= lastTime || span < 1) {
                return time;
            }
            int past = time - firstTime;
            if (end == AGAIN) {
                return firstTime + past % span;
            }
            int way = past % (2 * span);
            return firstTime + (way <= span ? way : 2 * span - way);
        }

        /** What is told from the one key on, at a time ahead of the next one, by the EASE. */
        private int valueFrom(Key a, int time) {
            Key b = a.next;
            if (b == null || ease == HOLD) {
                return a.value;
            }
            long past = time - a.time;
            long gap = b.time - a.time;
            if (gap < 1) {
                return a.value;
            }
            long rise = b.value - a.value;
            if (ease == EVEN) {
                return (int) (a.value + rise * past / gap);
            }
            return (int) (a.value + rise * past * past * (3 * gap - 2 * past) / (gap * gap * gap));
        }

        private Key lastKeyUpTo(int time) {
            Key last = null;
            for (Key k = firstKey; k != null && k.time <= time; k = k.next) {
                last = k;
            }
            return last;
        }
    }

    /** A key, in the chain of those of its track, by their times. */
    private static final class Key {
        final int time;
        int value;
        Key next;

        Key(int time, int value) {
            this.time = time;
            this.value = value;
        }
    }

    /** All points from a left top one to a right bottom one, edges counted. */
    private static final class Frame {
        final int left;
        final int top;
        final int right;
        final int bottom;

        Frame(int left, int top, int right, int bottom) {
            this.left = left;
            this.top = top;
            this.right = right;
            this.bottom = bottom;
        }

        boolean holds(Point p) {
            return p.x >= left * p.under && p.x <= right * p.under
                    && p.y >= top * p.under && p.y <= bottom * p.under;
        }

        /** Of a frame that begins at (0, 0): whether the point is not beyond the line that makes it a wedge. */
        boolean isAheadOfSlope(Point p) {
            return p.x * bottom + p.y * right <= p.under * right * bottom;
        }
    }

    /** A point of fractions, that is carried from node to node: both have one denominator, above 0. */
    private static final class Point {
        long x;
        long y;
        long under = 1;
        boolean isCutAway;

        void set(long x, long y, long under) {
            this.x = x;
            this.y = y;
            this.under = under;
            isCutAway = false;
        }

        /** From the node to its parent. */
        void leave(Node node, int time) {
            x *= node.over;
            y *= node.over;
            under *= node.under;
            if (node.isMirrored) {
                x = -x;
            }
            turnQuarters(node.turns.at(time));
            x += node.x.at(time) * under;
            y += node.y.at(time) * under;
        }

        /** From the parent to the node. */
        void enter(Node node, int time) {
            x -= node.x.at(time) * under;
            y -= node.y.at(time) * under;
            turnQuarters(QUARTERS - node.turns.at(time));
            if (node.isMirrored) {
                x = -x;
            }
            x *= node.under;
            y *= node.under;
            under *= node.over;
            if (node.cut != null && !node.cut.holds(this)) {
                isCutAway = true;
            }
        }

        private void turnQuarters(int turns) {
            for (int i = 0; i < turns; i++) {
                long oldX = x;
                x = -y;
                y = oldX;
            }
        }

        /** 0 and 1 the numerator and denominator of x, 2 and 3 those of y, in lowest terms. */
        long part(int what) {
            long over = what < 2 ? x : y;
            long divisor = commonDivisor(over, under);
            return (what % 2 == 0 ? over : under) / divisor;
        }
    }

    /** A fraction in lowest terms; 0 / 0 is none at all. */
    private static final class Fraction {
        long over;
        long under;

        void set(long over, long under) {
            long divisor = commonDivisor(over, under);
            this.over = over / divisor;
            this.under = under / divisor;
        }

        void lowerTo(long over, long under) {
            if (this.under == 0 || over * this.under < this.over * under) {
                set(over, under);
            }
        }

        void raiseTo(long over, long under) {
            if (this.under == 0 || over * this.under > this.over * under) {
                set(over, under);
            }
        }
    }

    /** The bounds of some points. */
    private static final class Bounds {
        final Fraction leastX = new Fraction();
        final Fraction leastY = new Fraction();
        final Fraction greatestX = new Fraction();
        final Fraction greatestY = new Fraction();

        void clear() {
            leastX.set(0, 0);
            leastY.set(0, 0);
            greatestX.set(0, 0);
            greatestY.set(0, 0);
        }

        void include(Point p) {
            leastX.lowerTo(p.x, p.under);
            leastY.lowerTo(p.y, p.under);
            greatestX.raiseTo(p.x, p.under);
            greatestY.raiseTo(p.y, p.under);
        }

        Fraction side(int side) {
            switch (side) {
                case 0:
                    return leastX;
                case 1:
                    return leastY;
                case 2:
                    return greatestX;
                default:
                    return greatestY;
            }
        }
    }
}
