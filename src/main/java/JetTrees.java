/**
 * Tracks of collisions, gathered into trees of jets. What each call answers is written in
 * ../shared/DOC.md, promise by promise; the words in capitals below are the words of that page.
 *
 * A State never changes once it is the state of now: a change makes a new one, which shares all
 * that stays. So a step is taken back, or the image gone back to, by taking the older State again.
 */
public final class JetTrees {

    public static final int NONE = -1;

    private static final int OTHERS = -2;
    private static final int NO_VALUE = -1000;
    private static final int MOST_TRACKS = 40;
    private static final int MOST_TREES = 4;
    private static final int MOST_KEPT = 4;
    private static final int MOST_EVENTS = 3;
    private static final int MOST_STEPS_BACK = 20;
    private static final int MOST_ACROSS = 200;
    private static final int ALL_ROUND = 360;
    private static final int HALF_ROUND = 180;
    private static final int QUARTER_ROUND = 90;
    private static final int MOST_WEIGHT = 9999;
    private static final int MOST_RADIUS = 200;
    private static final int MOST_SPREAD = 60;
    private static final int MOST_DRAWN = 20;
    private static final int MOST_TILE = 100;
    private static final int MOST_AXES = 9;
    private static final int MOST_GOINGS_ON = 20;
    private static final int MOST_SHARINGS = 1000000;
    private static final int MOST_HALVINGS = 2000;
    private static final int WHOLE = 1000;
    private static final int X_MODULUS = 30091;
    private static final int X_FACTOR = 821;
    private static final int X_MORE = 631;
    private static final int X_FIRST = 701;

    private State now;
    private final State[] past;
    private int pastCount;
    private State image;
    private final State[] imagePast;
    private int imagePastCount;

    public JetTrees() {
        now = new State();
        past = new State[MOST_STEPS_BACK];
        pastCount = 0;
        image = now;
        imagePast = new State[MOST_STEPS_BACK];
        imagePastCount = 0;
    }

    // ---- TRACKS and settings

    public int track(int across, int round, int weight) {
        Event event = now.inHand();
        int number = event.size();
        if (!isPlace(across, round) || !isWeight(weight) || number >= MOST_TRACKS) {
            return NONE;
        }
        Body[] tracks = event.copiedTo(number + 1);
        tracks[number] = new Body(number, across, round, weight);
        takeStep(now.withTracks(tracks));
        return number;
    }

    public boolean move(int track, int across, int round) {
        Body old = now.inHand().trackAt(track);
        if (old == null || !isPlace(across, round)) {
            return false;
        }
        replaceTrack(new Body(track, across, round, old.weight));
        return true;
    }

    public boolean weigh(int track, int weight) {
        Body old = now.inHand().trackAt(track);
        if (old == null || !isWeight(weight)) {
            return false;
        }
        replaceTrack(new Body(track, old.across, old.round, weight));
        return true;
    }

    public int drop(int track) {
        Event event = now.inHand();
        if (event.trackAt(track) == null) {
            return NONE;
        }
        int fewer = event.size() - 1;
        Body[] tracks = event.copiedTo(fewer);
        for (int i = track; i < fewer; i++) {
            tracks[i] = event.tracks[i + 1].numbered(i);
        }
        takeStep(now.withTracks(tracks));
        return fewer;
    }

    public int drawn(int across, int round, int spread, int n) {
        if (!isPlace(across, round) || spread < 0 || spread > MOST_SPREAD || n < 1 || n > MOST_DRAWN) {
            return NONE;
        }
        Event event = now.inHand();
        int before = event.size();
        int after = before + n;
        if (after > MOST_TRACKS) {
            return NONE;
        }
        Body[] tracks = event.copiedTo(after);
        int x = now.x;
        int ways = 2 * spread + 1;
        for (int i = before; i < after; i++) {
            x = nextX(x);
            int drawnAcross = across + Math.floorMod(x, ways) - spread;
            x = nextX(x);
            int drawnRound = Math.floorMod(round + Math.floorMod(x, ways) - spread, ALL_ROUND);
            x = nextX(x);
            int heldAcross = Math.max(-MOST_ACROSS, Math.min(MOST_ACROSS, drawnAcross));
            tracks[i] = new Body(i, heldAcross, drawnRound, x % 500 + 1);
        }
        State next = now.withTracks(tracks);
        next.x = x;
        takeStep(next);
        return after;
    }

    public boolean tell(int x) {
        if (x < 0 || x >= X_MODULUS) {
            return false;
        }
        State next = new State(now);
        next.x = x;
        now = next;
        return true;
    }

    public boolean set(int what, int value) {
        State next = new State(now);
        if (what == 0 && isRadius(value)) {
            next.radius = value;
        } else if (what == 1 && isPower(value)) {
            next.power = value;
        } else if (what == 2 && (value == 0 || value == 1)) {
            next.sums = value;
        } else {
            return false;
        }
        takeStep(next);
        return true;
    }

    // ---- What makes TREES, keeps CUTS and changes EVENTS

    public int gather(int tree) {
        if (!isTree(tree) || now.inHand().size() == 0) {
            return NONE;
        }
        Tree gathered = gatheredNow();
        takeStep(now.withTree(tree, gathered));
        return gathered.jetCount;
    }

    public int keep(int as, int tree, int n) {
        Tree from = treeAt(tree);
        int steps = from == null ? NONE : from.stepsToCount(n);
        if (from == null || steps == NONE || as < 0 || as >= MOST_KEPT) {
            return NONE;
        }
        long[] sets = from.setsOfCut(steps);
        State next = new State(now);
        next.kept[as] = sets;
        takeStep(next);
        return sets.length;
    }

    public int apart(int tree, int knot, int power, int r, int into) {
        Tree from = treeAt(tree);
        Knot whole = knotAt(tree, knot);
        if (from == null || whole == null || !isPower(power) || !isRadius(r) || !isTree(into)) {
            return NONE;
        }
        Tree gathered = Branches.gatheredApart(from, whole, power, r);
        takeStep(now.withTree(into, gathered));
        return gathered.jetCount;
    }

    public int hand(int event) {
        if (event < 0 || event >= MOST_EVENTS || event == now.hand) {
            return NONE;
        }
        State next = new State(now);
        next.hand = event;
        takeStep(next);
        return next.inHand().size();
    }

    public int mix(int event, int turn) {
        if (event < 0 || event >= MOST_EVENTS || event == now.hand || turn < 0 || turn >= ALL_ROUND) {
            return NONE;
        }
        Event mixedIn = now.events[event];
        int before = now.inHand().size();
        int after = before + mixedIn.size();
        if (after > MOST_TRACKS) {
            return NONE;
        }
        Body[] tracks = now.inHand().copiedTo(after);
        for (int i = 0; i < mixedIn.size(); i++) {
            Body old = mixedIn.tracks[i];
            int turned = Math.floorMod(old.round + turn, ALL_ROUND);
            tracks[before + i] = new Body(before + i, old.across, turned, old.weight);
        }
        takeStep(now.withTracks(tracks));
        return after;
    }

    public boolean free(int tree) {
        if (treeAt(tree) == null) {
            return false;
        }
        takeStep(now.withTree(tree, null));
        return true;
    }

    public int undo() {
        if (pastCount < 1 || pastCount > past.length) {
            return NONE;
        }
        pastCount--;
        now = past[pastCount];
        past[pastCount] = null;
        return pastCount;
    }

    // ---- What is, and what TRACKS are

    public int is(int what) {
        switch (what) {
            case 0: return now.radius;
            case 1: return now.power;
            case 2: return now.sums;
            case 3: return now.inHand().size();
            case 4: return now.x;
            case 5: return treeBits();
            case 6: return now.inHand().weightOfAll();
            case 7: return now.hand;
            default: return OTHERS;
        }
    }

    public int of(int track, int what) {
        Body body = now.inHand().trackAt(track);
        if (body == null) {
            return NO_VALUE;
        }
        switch (what) {
            case 0: return body.across;
            case 1: return body.round;
            case 2: return body.weight;
            default: return NO_VALUE;
        }
    }

    public int square(int track, int other) {
        Body body = now.inHand().trackAt(track);
        Body second = now.inHand().trackAt(other);
        return body == null || second == null ? NONE : body.squareTo(second);
    }

    public int nearest(int track) {
        Body body = now.inHand().trackAt(track);
        return body == null ? NONE : now.inHand().nearestTo(body);
    }

    // ---- What a TREE is

    public int tree(int tree, int what) {
        Tree asked = treeAt(tree);
        if (asked == null) {
            return OTHERS;
        }
        switch (what) {
            case 0: return asked.knotCount;
            case 1: return asked.stepCount;
            case 2: return asked.jetCount;
            case 3: return asked.trackCount;
            case 4: return asked.radius;
            case 5: return asked.power;
            case 6: return asked.sums;
            default: return OTHERS;
        }
    }

    public int knot(int tree, int knot, int what) {
        Knot asked = knotAt(tree, knot);
        if (asked == null) {
            return NO_VALUE;
        }
        switch (what) {
            case 0: return asked.body.across;
            case 1: return asked.body.round;
            case 2: return asked.body.weight;
            case 3: return numberOf(asked.first);
            case 4: return numberOf(asked.second);
            case 5: return numberOf(asked.whole);
            case 6: return asked.joinedBy;
            case 7: return asked.wentBy;
            default: return NO_VALUE;
        }
    }

    public int origin(int tree, int track) {
        Tree asked = treeAt(tree);
        if (asked == null || track < 0 || track >= asked.origins.length) {
            return NONE;
        }
        return asked.origins[track];
    }

    public int step(int tree, int step, int what) {
        Step asked = stepAt(tree, step);
        if (asked == null) {
            return OTHERS;
        }
        switch (what) {
            case 0: return asked.first;
            case 1: return asked.second;
            case 2: return asked.came;
            default: return OTHERS;
        }
    }

    public long up(int tree, int step) {
        Step asked = stepAt(tree, step);
        return asked == null ? NONE : asked.up;
    }

    public long down(int tree, int step) {
        Step asked = stepAt(tree, step);
        return asked == null ? NONE : asked.down;
    }

    public long leaves(int tree, int knot) {
        Knot asked = knotAt(tree, knot);
        return asked == null ? 0L : asked.leaves;
    }

    public int jet(int tree, int i) {
        return numberOf(jetByWeight(tree, i));
    }

    public int jetOf(int tree, int track) {
        Tree asked = treeAt(tree);
        if (asked == null) {
            return NONE;
        }
        Knot leaf = asked.trackAt(track);
        return leaf == null ? NONE : numberOf(asked.jetWith(leaf.leaves));
    }

    public int left(int tree, int n, int i) {
        Tree asked = treeAt(tree);
        if (asked == null || n < 0 || n > asked.stepCount) {
            return NONE;
        }
        return asked.ithBehind(n, false, i);
    }

    public int cut(int tree, int n, int i) {
        Tree asked = treeAt(tree);
        int steps = asked == null ? NONE : asked.stepsToCount(n);
        return asked == null || steps == NONE ? NONE : asked.ithBehind(steps, true, i);
    }

    public int cutBy(int tree, int up, int down, int i) {
        Tree asked = treeAt(tree);
        if (asked == null || up < 0 || down < 1) {
            return NONE;
        }
        return asked.ithBehind(asked.stepsToMark(up, down), true, i);
    }

    public int together(int tree, int track, int other) {
        Tree asked = treeAt(tree);
        if (asked == null || track == other) {
            return NONE;
        }
        Knot first = asked.trackAt(track);
        Knot second = asked.trackAt(other);
        return first == null || second == null ? NONE : asked.stepThatJoined(first.leaves | second.leaves);
    }

    // ---- Branches of a TREE

    public int groom(int tree, int knot, int z, int slope) {
        Tree asked = treeAt(tree);
        Knot whole = knotAt(tree, knot);
        if (asked == null || whole == null || !isOfThousand(z) || slope < 0 || slope > 1) {
            return NONE;
        }
        return numberOf(Branches.groomed(whole, z, slope == 1, asked.radius));
    }

    public long trim(int tree, int knot, int r, int z) {
        Tree asked = treeAt(tree);
        Knot whole = knotAt(tree, knot);
        if (asked == null || whole == null || !isRadius(r) || !isOfThousand(z)) {
            return 0L;
        }
        Tree anew = Branches.gatheredApart(asked, whole, asked.power, r);
        return Branches.trimmed(anew, whole, z);
    }

    public long prune(int tree, int knot, int z, int r) {
        Tree asked = treeAt(tree);
        Knot whole = knotAt(tree, knot);
        if (asked == null || whole == null || !isOfThousand(z) || !isRadius(r)) {
            return 0L;
        }
        return Branches.pruned(asked, whole, z, r);
    }

    public int split(int tree, int knot, int i, int what) {
        Knot whole = knotAt(tree, knot);
        if (whole == null) {
            return NONE;
        }
        // What is asked belongs to the i-th alone: how many there are is answered beside any.
        if (i == NONE) {
            return Branches.splitsOf(whole);
        }
        Knot asked = Branches.splitAt(whole, i);
        if (asked == null) {
            return NONE;
        }
        switch (what) {
            case 0: return asked.body.number;
            case 1: return Branches.lightShare(asked);
            case 2: return asked.squareOfParts();
            default: return NONE;
        }
    }

    public long width(int tree, int knot) {
        Tree asked = treeAt(tree);
        Knot whole = knotAt(tree, knot);
        return asked == null || whole == null ? 0L : Branches.widthBits(asked, whole);
    }

    public long closeness(int tree, int knot) {
        Tree asked = treeAt(tree);
        Knot whole = knotAt(tree, knot);
        return asked == null || whole == null ? 0L : Branches.closenessBits(asked, whole);
    }

    // ---- CUTS that are KEPT

    public long kept(int as, int i) {
        long[] sets = keptAt(as);
        if (sets == null) {
            return NONE;
        }
        if (i == NONE) {
            return sets.length;
        }
        return i < 0 || i >= sets.length ? NONE : sets[i];
    }

    public boolean within(int as, int other) {
        long[] inner = keptAt(as);
        long[] outer = keptAt(other);
        if (inner == null || outer == null) {
            return false;
        }
        for (int i = 0; i < inner.length; i++) {
            if (!isInOneOf(inner[i], outer)) {
                return false;
            }
        }
        return true;
    }

    public long tau(int tree, int knot, int n) {
        Tree asked = treeAt(tree);
        Knot whole = knotAt(tree, knot);
        if (asked == null || whole == null || n < 1 || n > MOST_AXES) {
            return 0L;
        }
        return Branches.tauBits(asked, whole, n);
    }

    // ---- JETS of a TREE, and two TREES beside one another

    public int matched(int tree, int jet, int other) {
        Tree asked = treeAt(tree);
        Tree second = treeAt(other);
        Knot whole = knotAt(tree, jet);
        if (asked == null || second == null || whole == null || whole.whole != null) {
            return NONE;
        }
        Knot best = null;
        int most = 0;
        for (int i = 0; i < second.jetCount; i++) {
            int shared = asked.weightOf(whole.leaves & second.jets[i].leaves);
            if (shared > most) {
                most = shared;
                best = second.jets[i];
            }
        }
        return numberOf(best);
    }

    public boolean alike(int tree, int other) {
        Tree asked = treeAt(tree);
        Tree second = treeAt(other);
        if (asked == null || second == null) {
            return false;
        }
        return asked.jetsUnlike(second) == 0 && second.jetsUnlike(asked) == 0;
    }

    public int unlike(int tree, int other) {
        Tree asked = treeAt(tree);
        Tree second = treeAt(other);
        return asked == null || second == null ? NONE : asked.jetsUnlike(second);
    }

    public int backToBack(int tree) {
        Knot first = jetByWeight(tree, 0);
        Knot second = jetByWeight(tree, 1);
        if (first == null || second == null) {
            return NONE;
        }
        return Body.lesserWay(first.body.round, second.body.round);
    }

    public boolean fresh(int tree) {
        Tree asked = treeAt(tree);
        if (asked == null || now.inHand().size() != asked.trackCount) {
            return false;
        }
        return gatheredNow().hasStepsOf(asked);
    }

    public long pair(int tree, int i, int j) {
        Knot first = jetByWeight(tree, i);
        Knot second = jetByWeight(tree, j);
        if (first == null || second == null || i >= j) {
            return NONE;
        }
        return first.body.pairedWith(second.body);
    }

    public int nearestPair(int tree, long mark) {
        Tree asked = treeAt(tree);
        if (asked == null || mark < 0) {
            return NONE;
        }
        return asked.pairNearestTo(mark);
    }

    public int count(int tree, int weight, int a) {
        Tree asked = treeAt(tree);
        if (asked == null || weight < 0 || a < 0 || a > MOST_ACROSS) {
            return NONE;
        }
        int found = 0;
        for (int i = 0; i < asked.jetCount; i++) {
            Body body = asked.jets[i].body;
            if (body.weight >= weight && Math.abs(body.across) <= a) {
                found++;
            }
        }
        return found;
    }

    public int common(int tree, int other) {
        Tree asked = treeAt(tree);
        Tree second = treeAt(other);
        return asked == null || second == null ? NONE : asked.joinedInCommon(second);
    }

    // ---- How TRACKS lie

    public int span(int i, int what) {
        if (i == NONE) {
            return what == 0 ? Math.max(0, now.inHand().size() - 1) : NONE;
        }
        if (i < 0 || i >= now.inHand().size() - 1 || what < 0 || what > 2) {
            return NONE;
        }
        return now.inHand().spanned(i, what);
    }

    public int gap(int what) {
        if (what < 0 || what > 1) {
            return NONE;
        }
        return now.inHand().greatestGap(what == 1);
    }

    public int tiles(int size, int what) {
        if (!isTile(size) || what < 0 || what > 1) {
            return NONE;
        }
        Tiling tiling = now.inHand().tiledBy(size);
        return what == 0 ? tiling.used : tiling.mostTracks();
    }

    public int cone(int across, int round, int r, int what) {
        if (!isPlace(across, round) || !isRadius(r)) {
            return NONE;
        }
        Cones cones = new Cones(now.inHand().tracks);
        long about = cones.tracksAbout(across, round, r);
        switch (what) {
            case 0: return Long.bitCount(about);
            case 1: return cones.weightOf(about);
            case 2: return cones.isSteady(across, round, about) ? 1 : 0;
            default: return NONE;
        }
    }

    public long still(int r, int i) {
        if (!isRadius(r)) {
            return NONE;
        }
        Cones cones = new Cones(now.inHand().tracks);
        cones.findStill(r);
        return cones.stillAt(i);
    }

    public long patch(int r, int f, int i) {
        if (!isRadius(r) || !isOfThousand(f)) {
            return NONE;
        }
        Cones cones = new Cones(now.inHand().tracks);
        cones.findStill(r);
        cones.shareOut(f);
        return cones.patchAt(i);
    }

    public int pedestal(int size) {
        return isTile(size) ? now.inHand().tiledBy(size).middleWeight() : NONE;
    }

    public int clean(int tree, int jet, int size) {
        Tree asked = treeAt(tree);
        Knot whole = knotAt(tree, jet);
        if (asked == null || whole == null || whole.whole != null || !isTile(size)) {
            return NONE;
        }
        int under = now.inHand().tiledBy(size).middleWeight();
        return Math.max(0, whole.body.weight - under * asked.tilesOf(whole, size));
    }

    public int balance(int round) {
        return isRound(round) ? now.inHand().balanceAbout(round) : 0;
    }

    public int axis() {
        int best = 0;
        int greatest = now.inHand().balanceAbout(0);
        for (int round = 1; round < ALL_ROUND; round++) {
            int weights = now.inHand().balanceAbout(round);
            if (weights > greatest) {
                greatest = weights;
                best = round;
            }
        }
        return best;
    }

    // ---- THE IMAGE and the STEPS

    public int image() {
        image = now;
        System.arraycopy(past, 0, imagePast, 0, MOST_STEPS_BACK);
        imagePastCount = pastCount;
        return now.inHand().size();
    }

    public int back() {
        now = image;
        System.arraycopy(imagePast, 0, past, 0, MOST_STEPS_BACK);
        pastCount = imagePastCount;
        return now.inHand().size();
    }

    public int steps() {
        return pastCount;
    }

    // ---- What the calls above have alike

    private void takeStep(State next) {
        if (pastCount >= MOST_STEPS_BACK) {
            System.arraycopy(past, 1, past, 0, MOST_STEPS_BACK - 1);
            pastCount = MOST_STEPS_BACK - 1;
        }
        past[pastCount] = now;
        pastCount++;
        now = next;
    }

    private void replaceTrack(Body other) {
        Body[] tracks = now.inHand().copiedTo(now.inHand().size());
        tracks[other.number] = other;
        takeStep(now.withTracks(tracks));
    }

    private Tree gatheredNow() {
        return new Gatherer(now.inHand().tracks, now.radius, now.power, now.sums).gathered();
    }

    private Tree treeAt(int tree) {
        return isTree(tree) ? now.trees[tree] : null;
    }

    private Knot knotAt(int tree, int knot) {
        Tree asked = treeAt(tree);
        return asked == null ? null : asked.knotAt(knot);
    }

    private Step stepAt(int tree, int step) {
        Tree asked = treeAt(tree);
        return asked == null || step < 0 || step >= asked.stepCount ? null : asked.steps[step];
    }

    private Knot jetByWeight(int tree, int i) {
        Tree asked = treeAt(tree);
        return asked == null || i < 0 || i >= asked.jetCount ? null : asked.jets[i];
    }

    private long[] keptAt(int as) {
        return as < 0 || as >= MOST_KEPT ? null : now.kept[as];
    }

    private int treeBits() {
        int bits = 0;
        for (int i = 0; i < MOST_TREES; i++) {
            if (now.trees[i] != null) {
                bits |= 1 << i;
            }
        }
        return bits;
    }

    private static int numberOf(Knot knot) {
        return knot == null ? NONE : knot.body.number;
    }

    private static int nextX(int x) {
        return (x * X_FACTOR + X_MORE) % X_MODULUS;
    }

    private static boolean isInOneOf(long set, long[] sets) {
        for (int i = 0; i < sets.length; i++) {
            if ((set & ~sets[i]) == 0) {
                return true;
            }
        }
        return false;
    }

    private static boolean isPlace(int across, int round) {
        return across >= -MOST_ACROSS && across <= MOST_ACROSS && isRound(round);
    }

    private static boolean isRound(int round) {
        return round >= 0 && round < ALL_ROUND;
    }

    private static boolean isWeight(int weight) {
        return weight >= 1 && weight <= MOST_WEIGHT;
    }

    private static boolean isRadius(int r) {
        return r >= 1 && r <= MOST_RADIUS;
    }

    private static boolean isPower(int power) {
        return power >= -1 && power <= 1;
    }

    private static boolean isTree(int tree) {
        return tree >= 0 && tree < MOST_TREES;
    }

    private static boolean isTile(int size) {
        return size >= 1 && size <= MOST_TILE;
    }

    private static boolean isOfThousand(int part) {
        return part >= 0 && part <= WHOLE;
    }

    private static long bitOf(int number) {
        return 1L << number;
    }

    private static boolean isIn(long set, int number) {
        return (set & bitOf(number)) != 0;
    }

    /** Every division downward goes through here, so that none is by nothing. */
    private static int downward(int number, int by) {
        return by == 0 ? 0 : Math.floorDiv(number, by);
    }

    /** All that a STEP can change. It isn't changed any more once it is the state of now. */
    private static final class State {
        int radius;
        int power;
        int sums;
        int x;
        int hand;
        final Event[] events;
        final Tree[] trees;
        final long[][] kept;

        State() {
            radius = 40;
            power = -1;
            sums = 0;
            x = X_FIRST;
            hand = 0;
            events = new Event[MOST_EVENTS];
            for (int i = 0; i < MOST_EVENTS; i++) {
                events[i] = new Event(new Body[0]);
            }
            trees = new Tree[MOST_TREES];
            kept = new long[MOST_KEPT][];
        }

        State(State other) {
            radius = other.radius;
            power = other.power;
            sums = other.sums;
            x = other.x;
            hand = other.hand;
            events = new Event[MOST_EVENTS];
            System.arraycopy(other.events, 0, events, 0, MOST_EVENTS);
            trees = new Tree[MOST_TREES];
            System.arraycopy(other.trees, 0, trees, 0, MOST_TREES);
            kept = new long[MOST_KEPT][];
            System.arraycopy(other.kept, 0, kept, 0, MOST_KEPT);
        }

        Event inHand() {
            return events[hand];
        }

        State withTracks(Body[] tracks) {
            State other = new State(this);
            other.events[hand] = new Event(tracks);
            return other;
        }

        State withTree(int number, Tree tree) {
            State other = new State(this);
            other.trees[number] = tree;
            return other;
        }
    }

    /** A PLACE with a WEIGHT and a number: a TRACK, or what a KNOT weighs and where. It never changes. */
    private static final class Body {
        final int number;
        final int across;
        final int round;
        final int weight;

        Body(int number, int across, int round, int weight) {
            this.number = number;
            this.across = across;
            this.round = round;
            this.weight = weight;
        }

        Body numbered(int other) {
            return new Body(other, across, round, weight);
        }

        boolean isAheadOf(Body other) {
            if (across != other.across) {
                return across < other.across;
            }
            if (round != other.round) {
                return round < other.round;
            }
            if (weight != other.weight) {
                return weight < other.weight;
            }
            return number < other.number;
        }

        int squareTo(Body other) {
            return squareTo(other.across, other.round);
        }

        int squareTo(int otherAcross, int otherRound) {
            int along = across - otherAcross;
            int way = lesserWay(round, otherRound);
            return along * along + way * way;
        }

        long pairedWith(Body other) {
            return (long) weight * other.weight * squareTo(other);
        }

        static int lesserWay(int round, int other) {
            int way = Math.abs(round - other);
            return Math.min(way, ALL_ROUND - way);
        }

        /** The lesser way with its sign, negative against the numbers; of 180 it is positive. */
        static int wayFromTo(int from, int to) {
            int upward = Math.floorMod(to - from, ALL_ROUND);
            return upward > HALF_ROUND ? upward - ALL_ROUND : upward;
        }
    }

    /** A PLACE that is summed up by SUMS 0. One is used for many sums, since each TRACK in each CONE needs one. */
    private static final class Sum {
        int across;
        int round;
        int weight;

        void begin(Body first) {
            across = first.across;
            round = first.round;
            weight = first.weight;
        }

        void add(Body second) {
            int both = weight + second.weight;
            across = downward(weight * across + second.weight * second.across, both);
            int way = Body.wayFromTo(round, second.round);
            round = Math.floorMod(round + downward(second.weight * way, both), ALL_ROUND);
            weight = both;
        }

        void addAll(Body[] tracks, long set) {
            boolean begun = false;
            for (int i = 0; i < tracks.length; i++) {
                if (isIn(set, i) && begun) {
                    add(tracks[i]);
                } else if (isIn(set, i)) {
                    begin(tracks[i]);
                    begun = true;
                }
            }
        }
    }

    /** A KNOT of a TREE. Its parts are null in a TRACK, the whole is null in a JET. */
    private static final class Knot {
        final Body body;
        final long leaves;
        final Knot first;
        final Knot second;
        final int joinedBy;
        Knot whole;
        int wentBy;

        Knot(Body body, long leaves, Knot first, Knot second, int joinedBy) {
            this.body = body;
            this.leaves = leaves;
            this.first = first;
            this.second = second;
            this.joinedBy = joinedBy;
            this.whole = null;
            this.wentBy = NONE;
        }

        boolean wasJoined() {
            return first != null && second != null;
        }

        /** Of like ones the first part is the heavier one, since it comes ahead. Null in a TRACK. */
        Knot heavier() {
            if (first == null || second == null) {
                return null;
            }
            return second.body.weight > first.body.weight ? second : first;
        }

        Knot lighter() {
            if (first == null || second == null) {
                return null;
            }
            return second.body.weight > first.body.weight ? first : second;
        }

        int squareOfParts() {
            return first == null || second == null ? 0 : first.body.squareTo(second.body);
        }
    }

    /** A STEP of a TREE, its MEASURE in lowest terms. */
    private static final class Step {
        final int first;
        final int second;
        final int came;
        final long up;
        final long down;

        Step(int first, int second, int came, long up, long down) {
            long common = commonDivisor(up, down);
            this.first = first;
            this.second = second;
            this.came = came;
            this.up = common == 0 ? up : up / common;
            this.down = common == 0 ? down : down / common;
        }

        boolean isLike(Step other) {
            return first == other.first && second == other.second && came == other.came
                && up == other.up && down == other.down;
        }

        /**
         * Whether the MEASURE is above a mark. Their products across would not fit into a long, so
         * whole parts are compared, then what remains turned over, which swaps the greater and the less.
         */
        boolean isAbove(long markUp, long markDown) {
            long a = up;
            long b = down;
            long c = markUp;
            long d = markDown;
            boolean turned = false;
            for (int i = 0; i < MOST_HALVINGS && b != 0 && d != 0; i++) {
                long whole = a / b;
                long markWhole = c / d;
                if (whole != markWhole) {
                    return (whole > markWhole) != turned;
                }
                long rest = a % b;
                long markRest = c % d;
                a = b;
                b = rest;
                c = d;
                d = markRest;
                turned = !turned;
            }
            // What has no rest is the greater one once turned over; without rests both are like.
            if (b == 0 && d == 0) {
                return false;
            }
            return (b == 0) != turned;
        }

        static long commonDivisor(long one, long other) {
            long a = one;
            long b = other;
            for (int i = 0; i < MOST_HALVINGS && b != 0; i++) {
                long rest = a % b;
                a = b;
                b = rest;
            }
            return a;
        }
    }

    /** A TREE. Only its Gatherer changes it, ahead of anyone else having it. */
    private static final class Tree {
        final int radius;
        final int power;
        final int sums;
        final int trackCount;
        final Knot[] knots;
        int knotCount;
        final Step[] steps;
        int stepCount;
        final Knot[] jets;
        int jetCount;
        int[] origins;

        Tree(int trackCount, int radius, int power, int sums) {
            this.radius = radius;
            this.power = power;
            this.sums = sums;
            this.trackCount = trackCount;
            knots = new Knot[2 * trackCount];
            knotCount = 0;
            steps = new Step[trackCount];
            stepCount = 0;
            jets = new Knot[trackCount];
            jetCount = 0;
            origins = new int[0];
        }

        void addKnot(Knot knot) {
            if (knotCount < knots.length) {
                knots[knotCount] = knot;
                knotCount++;
            }
        }

        void addStep(Step step) {
            if (stepCount < steps.length) {
                steps[stepCount] = step;
                stepCount++;
            }
        }

        /** JETS stand by WEIGHT from the first, so that every call finds them so. */
        void addJet(Knot jet) {
            if (jetCount >= jets.length) {
                return;
            }
            int at = jetCount;
            for (int i = jetCount; i > 0 && isJetBefore(jet.body, jets[i - 1].body); i--) {
                jets[i] = jets[i - 1];
                at = i - 1;
            }
            jets[at] = jet;
            jetCount++;
        }

        private static boolean isJetBefore(Body body, Body other) {
            return body.weight != other.weight ? body.weight > other.weight : body.isAheadOf(other);
        }

        Knot knotAt(int number) {
            return number < 0 || number >= knotCount ? null : knots[number];
        }

        Knot trackAt(int number) {
            return number < 0 || number >= trackCount ? null : knots[number];
        }

        Knot jetWith(long set) {
            for (int i = 0; i < jetCount; i++) {
                if ((jets[i].leaves & set) != 0) {
                    return jets[i];
                }
            }
            return null;
        }

        int stepThatJoined(long set) {
            // Wholes are numbered behind their parts, so the first one found is the least one.
            for (int i = trackCount; i < knotCount; i++) {
                if ((set & ~knots[i].leaves) == 0) {
                    return knots[i].joinedBy;
                }
            }
            return NONE;
        }

        int weightOf(long set) {
            int weight = 0;
            for (int i = 0; i < trackCount; i++) {
                if (isIn(set, i)) {
                    weight += knots[i].body.weight;
                }
            }
            return weight;
        }

        /** After how many STEPS there are n KNOTS and JETS or fewer; NONE if there never are so few. */
        int stepsToCount(int n) {
            if (n < 1 || n > MOST_TRACKS) {
                return NONE;
            }
            int there = trackCount;
            for (int i = 0; i < stepCount && there > n; i++) {
                if (steps[i].came != NONE) {
                    there--;
                }
                if (there <= n) {
                    return i + 1;
                }
            }
            return there <= n ? 0 : NONE;
        }

        /** How many STEPS stand ahead of the first one whose MEASURE is above the mark. */
        int stepsToMark(long up, long down) {
            for (int i = 0; i < stepCount; i++) {
                if (steps[i].isAbove(up, down)) {
                    return i;
                }
            }
            return stepCount;
        }

        boolean isThereBehind(Knot knot, int steps, boolean withJets) {
            if (knot.joinedBy >= steps) {
                return false;
            }
            return knot.wentBy >= steps || (withJets && knot.whole == null);
        }

        int ithBehind(int steps, boolean withJets, int i) {
            int found = 0;
            for (int k = 0; k < knotCount; k++) {
                if (isThereBehind(knots[k], steps, withJets)) {
                    if (found == i) {
                        return k;
                    }
                    found++;
                }
            }
            return i == NONE ? found : NONE;
        }

        long[] setsOfCut(int steps) {
            int size = Math.max(0, ithBehind(steps, true, NONE));
            long[] sets = new long[size];
            int found = 0;
            for (int k = 0; k < knotCount && found < size; k++) {
                if (isThereBehind(knots[k], steps, true)) {
                    sets[found] = knots[k].leaves;
                    found++;
                }
            }
            return sets;
        }

        int jetsUnlike(Tree other) {
            int unlike = 0;
            for (int i = 0; i < jetCount; i++) {
                Knot like = other.jetWith(jets[i].leaves);
                if (like == null || like.leaves != jets[i].leaves) {
                    unlike++;
                }
            }
            return unlike;
        }

        int joinedInCommon(Tree other) {
            int found = 0;
            for (int i = trackCount; i < knotCount; i++) {
                for (int j = other.trackCount; j < other.knotCount; j++) {
                    if (knots[i].leaves == other.knots[j].leaves) {
                        found++;
                    }
                }
            }
            return found;
        }

        boolean hasStepsOf(Tree other) {
            if (stepCount != other.stepCount) {
                return false;
            }
            for (int i = 0; i < stepCount; i++) {
                if (!steps[i].isLike(other.steps[i])) {
                    return false;
                }
            }
            return true;
        }

        int pairNearestTo(long mark) {
            int best = NONE;
            long least = 0L;
            for (int i = 0; i < jetCount; i++) {
                for (int j = i + 1; j < jetCount; j++) {
                    long off = Math.abs(jets[i].body.pairedWith(jets[j].body) - mark);
                    if (best == NONE || off < least) {
                        least = off;
                        best = MOST_TRACKS * i + j;
                    }
                }
            }
            return best;
        }

        int tilesOf(Knot knot, int size) {
            Tiling tiling = new Tiling(size);
            for (int i = 0; i < trackCount; i++) {
                if (isIn(knot.leaves, i)) {
                    tiling.add(knots[i].body);
                }
            }
            return tiling.used;
        }
    }

    /** Makes one TREE, STEP by STEP. */
    private static final class Gatherer {
        private final Body[] tracks;
        private final Tree tree;
        private final Sum sum;
        // KNOTS that are LEFT stand as they come ahead: of like MEASURES the first one met is taken.
        private final Knot[] open;
        private int openCount;
        private int bestFirst;
        private int bestSecond;
        private long bestUp;
        private long bestDown;

        Gatherer(Body[] tracks, int radius, int power, int sums) {
            this.tracks = tracks;
            tree = new Tree(tracks.length, radius, power, sums);
            sum = new Sum();
            open = new Knot[tracks.length];
            openCount = 0;
            bestFirst = NONE;
            bestSecond = NONE;
            bestUp = 0L;
            bestDown = 1L;
        }

        Tree gathered() {
            for (int i = 0; i < tracks.length; i++) {
                putIn(new Knot(tracks[i], bitOf(i), null, null, NONE));
            }
            for (int step = 0; step < tracks.length && openCount > 0; step++) {
                findLeast();
                if (bestFirst == NONE) {
                    break;
                }
                if (bestSecond == NONE) {
                    goToBeam(step);
                } else {
                    joinBest(step);
                }
            }
            return tree;
        }

        private void putIn(Knot knot) {
            tree.addKnot(knot);
            if (openCount >= open.length) {
                return;
            }
            int at = openCount;
            for (int i = openCount; i > 0 && knot.body.isAheadOf(open[i - 1].body); i--) {
                open[i] = open[i - 1];
                at = i - 1;
            }
            open[at] = knot;
            openCount++;
        }

        private void takeOut(int at) {
            for (int i = at; i + 1 < openCount; i++) {
                open[i] = open[i + 1];
            }
            openCount--;
            open[openCount] = null;
        }

        private void findLeast() {
            bestFirst = NONE;
            bestSecond = NONE;
            for (int i = 0; i < openCount; i++) {
                offerAlone(i);
            }
            for (int i = 0; i < openCount; i++) {
                for (int j = i + 1; j < openCount; j++) {
                    offerTwo(i, j);
                }
            }
        }

        private void offerAlone(int i) {
            long weight = open[i].body.weight;
            offer(i, NONE, (long) tree.radius * tree.radius, weight * weight);
        }

        private void offerTwo(int i, int j) {
            Body first = open[i].body;
            Body second = open[j].body;
            long weight = tree.power > 0
                ? Math.min(first.weight, second.weight) : Math.max(first.weight, second.weight);
            offer(i, j, first.squareTo(second), weight * weight);
        }

        private void offer(int i, int j, long square, long weightSquare) {
            long up = tree.power > 0 ? square * weightSquare : square;
            long down = tree.power < 0 ? weightSquare : 1L;
            if (bestFirst == NONE || up * bestDown < bestUp * down) {
                bestFirst = i;
                bestSecond = j;
                bestUp = up;
                bestDown = down;
            }
        }

        private void goToBeam(int step) {
            Knot jet = open[bestFirst];
            jet.wentBy = step;
            tree.addStep(new Step(jet.body.number, NONE, NONE, bestUp, bestDown));
            tree.addJet(jet);
            takeOut(bestFirst);
        }

        private void joinBest(int step) {
            Knot first = open[bestFirst];
            Knot second = open[bestSecond];
            Body body = joinedBody(first.body, second.body);
            Knot whole = new Knot(body, first.leaves | second.leaves, first, second, step);
            first.whole = whole;
            first.wentBy = step;
            second.whole = whole;
            second.wentBy = step;
            tree.addStep(new Step(first.body.number, second.body.number, body.number, bestUp, bestDown));
            // The second one stands behind the first, so it must go out before places come up.
            takeOut(bestSecond);
            takeOut(bestFirst);
            putIn(whole);
        }

        private Body joinedBody(Body first, Body second) {
            int number = tree.knotCount;
            if (tree.sums == 0) {
                sum.begin(first);
                sum.add(second);
                return new Body(number, sum.across, sum.round, sum.weight);
            }
            Body heavier = second.weight > first.weight ? second : first;
            return new Body(number, heavier.across, heavier.round, first.weight + second.weight);
        }
    }

    /** What is asked of a KNOT and all that is below it. */
    private static final class Branches {

        static Tree gatheredApart(Tree tree, Knot knot, int power, int r) {
            int size = Long.bitCount(knot.leaves);
            Body[] tracks = new Body[size];
            int[] origins = new int[size];
            int found = 0;
            for (int i = 0; i < tree.trackCount && found < size; i++) {
                if (isIn(knot.leaves, i)) {
                    tracks[found] = tree.knots[i].body.numbered(found);
                    origins[found] = i;
                    found++;
                }
            }
            Tree apart = new Gatherer(tracks, r, power, tree.sums).gathered();
            apart.origins = origins;
            return apart;
        }

        static Knot groomed(Knot knot, int z, boolean sloped, int radius) {
            Knot at = knot;
            for (int i = 0; i < MOST_TRACKS; i++) {
                Knot light = at.lighter();
                Knot heavy = at.heavier();
                if (light == null || heavy == null) {
                    return at;
                }
                long lightest = (long) light.body.weight * WHOLE;
                long least = (long) z * at.body.weight;
                if (sloped) {
                    lightest = lightest * radius * radius;
                    least = least * at.squareOfParts();
                }
                if (lightest >= least) {
                    return at;
                }
                at = heavy;
            }
            return at;
        }

        static long trimmed(Tree anew, Knot knot, int z) {
            long stay = 0L;
            for (int i = 0; i < anew.jetCount; i++) {
                Knot jet = anew.jets[i];
                if ((long) jet.body.weight * WHOLE >= (long) z * knot.body.weight) {
                    stay |= jet.leaves;
                }
            }
            long trimmed = 0L;
            for (int i = 0; i < anew.origins.length; i++) {
                if (isIn(stay, i)) {
                    trimmed |= bitOf(anew.origins[i]);
                }
            }
            return trimmed;
        }

        static long pruned(Tree tree, Knot knot, int z, int r) {
            boolean[] reached = new boolean[tree.knotCount];
            int top = knot.body.number;
            if (top < 0 || top >= reached.length) {
                return 0L;
            }
            reached[top] = true;
            // Parts have lower numbers than their whole, so one way down meets every KNOT behind its whole.
            for (int k = top; k >= tree.trackCount; k--) {
                Knot light = tree.knots[k].lighter();
                Knot heavy = tree.knots[k].heavier();
                if (reached[k] && light != null && heavy != null) {
                    boolean weak = (long) light.body.weight * WHOLE < (long) z * tree.knots[k].body.weight;
                    reached[heavy.body.number] = true;
                    reached[light.body.number] = !weak || tree.knots[k].squareOfParts() <= r * r;
                }
            }
            long stay = 0L;
            for (int i = 0; i < tree.trackCount; i++) {
                if (reached[i]) {
                    stay |= bitOf(i);
                }
            }
            return stay;
        }

        static int splitsOf(Knot knot) {
            Knot at = knot;
            for (int i = 0; i < MOST_TRACKS; i++) {
                Knot heavy = at.heavier();
                if (heavy == null) {
                    return i;
                }
                at = heavy;
            }
            return MOST_TRACKS;
        }

        static Knot splitAt(Knot knot, int i) {
            if (i < 0 || i >= splitsOf(knot)) {
                return null;
            }
            Knot at = knot;
            for (int k = 0; k < i && at != null; k++) {
                at = at.heavier();
            }
            return at;
        }

        static int lightShare(Knot knot) {
            Knot light = knot.lighter();
            return light == null ? 0 : downward(light.body.weight * WHOLE, knot.body.weight);
        }

        static long widthBits(Tree tree, Knot knot) {
            long sum = 0L;
            for (int i = 0; i < tree.trackCount; i++) {
                if (isIn(knot.leaves, i)) {
                    Body leaf = tree.knots[i].body;
                    sum += (long) leaf.weight * leaf.squareTo(knot.body);
                }
            }
            return quotientBits(sum, knot.body.weight);
        }

        static long closenessBits(Tree tree, Knot knot) {
            long sum = 0L;
            for (int i = 0; i < tree.trackCount; i++) {
                for (int j = i + 1; j < tree.trackCount; j++) {
                    if (isIn(knot.leaves, i) && isIn(knot.leaves, j)) {
                        sum += tree.knots[i].body.pairedWith(tree.knots[j].body);
                    }
                }
            }
            return quotientBits(sum, (long) knot.body.weight * knot.body.weight);
        }

        static long tauBits(Tree tree, Knot knot, int n) {
            Knot[] axes = new Knot[MOST_AXES];
            axes[0] = knot;
            int axisCount = 1;
            for (int i = 1; i < n && axisCount < axes.length; i++) {
                int latest = latestJoined(axes, axisCount);
                if (latest == NONE) {
                    break;
                }
                Knot opened = axes[latest];
                axes[latest] = opened.first;
                axes[axisCount] = opened.second;
                axisCount++;
            }
            long sum = 0L;
            for (int i = 0; i < tree.trackCount; i++) {
                if (isIn(knot.leaves, i)) {
                    Body leaf = tree.knots[i].body;
                    sum += (long) leaf.weight * leastSquare(leaf, axes, axisCount);
                }
            }
            return quotientBits(sum, knot.body.weight);
        }

        private static int latestJoined(Knot[] axes, int axisCount) {
            int latest = NONE;
            for (int i = 0; i < axisCount; i++) {
                if (axes[i].wasJoined() && (latest == NONE || axes[i].joinedBy > axes[latest].joinedBy)) {
                    latest = i;
                }
            }
            return latest;
        }

        private static int leastSquare(Body leaf, Knot[] axes, int axisCount) {
            int least = leaf.squareTo(axes[0].body);
            for (int i = 1; i < axisCount; i++) {
                least = Math.min(least, leaf.squareTo(axes[i].body));
            }
            return least;
        }

        /**
         * The bits of above by below, both as doubles. The library's own way to a double's bits is not
         * open to us: the quotient is doubled until it is a whole number of 53 bits, which loses nothing.
         */
        private static long quotientBits(long above, long below) {
            if (above <= 0 || below <= 0) {
                return 0L;
            }
            double mantissa = (double) above / (double) below;
            double full = (double) (1L << 52);
            int exponent = 52;
            for (int i = 0; i < MOST_HALVINGS && mantissa < full; i++) {
                mantissa = mantissa * 2.0;
                exponent--;
            }
            for (int i = 0; i < MOST_HALVINGS && mantissa >= full * 2.0; i++) {
                mantissa = mantissa / 2.0;
                exponent++;
            }
            return ((long) (exponent + 1023) << 52) | ((long) mantissa & ((1L << 52) - 1L));
        }
    }

    /** The TRACKS of one EVENT, by their numbers. It never changes. */
    private static final class Event {
        final Body[] tracks;

        Event(Body[] tracks) {
            this.tracks = tracks;
        }

        int size() {
            return tracks.length;
        }

        Body trackAt(int number) {
            return number < 0 || number >= tracks.length ? null : tracks[number];
        }

        /** A row for so many TRACKS, with those that there are as far as they go in. */
        Body[] copiedTo(int length) {
            Body[] copy = new Body[Math.max(0, length)];
            System.arraycopy(tracks, 0, copy, 0, Math.min(tracks.length, copy.length));
            return copy;
        }

        int weightOfAll() {
            int weight = 0;
            for (int i = 0; i < tracks.length; i++) {
                weight += tracks[i].weight;
            }
            return weight;
        }

        int nearestTo(Body body) {
            Body best = null;
            int least = 0;
            for (int i = 0; i < tracks.length; i++) {
                int square = body.squareTo(tracks[i]);
                boolean nearer = best == null || square < least
                    || (square == least && tracks[i].isAheadOf(best));
                if (i != body.number && nearer) {
                    best = tracks[i];
                    least = square;
                }
            }
            return best == null ? NONE : best.number;
        }

        private Body[] asTheyComeAhead() {
            Body[] row = copiedTo(tracks.length);
            for (int i = 1; i < row.length; i++) {
                Body body = row[i];
                int at = i;
                for (int k = i; k > 0 && body.isAheadOf(row[k - 1]); k--) {
                    row[k] = row[k - 1];
                    at = k - 1;
                }
                row[at] = body;
            }
            return row;
        }

        /**
         * Of the i-th two that are SPANNED what is asked. Twos once joined by a way stay so: the next one
         * is always the least of those without a way, the first one met of like ones.
         */
        int spanned(int i, int what) {
            Body[] row = asTheyComeAhead();
            int[] group = new int[row.length];
            for (int k = 0; k < row.length; k++) {
                group[k] = k;
            }
            for (int taken = 0; taken < row.length; taken++) {
                int best = leastWithoutWay(row, group);
                if (best == NONE || row.length == 0) {
                    return NONE;
                }
                Body first = row[best / row.length];
                Body second = row[best % row.length];
                if (taken == i) {
                    return what == 0 ? first.number : what == 1 ? second.number : first.squareTo(second);
                }
                putTogether(group, group[best / row.length], group[best % row.length]);
            }
            return NONE;
        }

        private static int leastWithoutWay(Body[] row, int[] group) {
            int best = NONE;
            int least = 0;
            for (int i = 0; i < row.length; i++) {
                for (int j = i + 1; j < row.length; j++) {
                    int square = row[i].squareTo(row[j]);
                    if (group[i] != group[j] && (best == NONE || square < least)) {
                        least = square;
                        best = i * row.length + j;
                    }
                }
            }
            return best;
        }

        private static void putTogether(int[] group, int one, int other) {
            for (int i = 0; i < group.length; i++) {
                if (group[i] == other) {
                    group[i] = one;
                }
            }
        }

        int greatestGap(boolean begin) {
            int greatest = NONE;
            int beginning = NONE;
            for (int i = 0; i < tracks.length; i++) {
                int round = tracks[i].round;
                int way = wayToNext(round);
                if (way > greatest || (way == greatest && round < beginning)) {
                    greatest = way;
                    beginning = round;
                }
            }
            return begin ? beginning : greatest;
        }

        private int wayToNext(int round) {
            int least = ALL_ROUND;
            for (int i = 0; i < tracks.length; i++) {
                int way = Math.floorMod(tracks[i].round - round, ALL_ROUND);
                if (way > 0 && way < least) {
                    least = way;
                }
            }
            return least;
        }

        Tiling tiledBy(int size) {
            Tiling tiling = new Tiling(size);
            for (int i = 0; i < tracks.length; i++) {
                tiling.add(tracks[i]);
            }
            return tiling;
        }

        int balanceAbout(int round) {
            int weight = 0;
            for (int i = 0; i < tracks.length; i++) {
                boolean near = Body.lesserWay(round, tracks[i].round) < QUARTER_ROUND;
                weight += near ? tracks[i].weight : -tracks[i].weight;
            }
            return weight;
        }
    }

    /** The TILES of one size that have TRACKS. */
    private static final class Tiling {
        private final int size;
        private final int[] acrosses;
        private final int[] rounds;
        private final int[] weights;
        private final int[] tracks;
        int used;

        Tiling(int size) {
            this.size = size;
            acrosses = new int[MOST_TRACKS];
            rounds = new int[MOST_TRACKS];
            weights = new int[MOST_TRACKS];
            tracks = new int[MOST_TRACKS];
            used = 0;
        }

        void add(Body body) {
            int across = downward(body.across, size);
            int round = downward(body.round, size);
            int at = 0;
            while (at < used && (acrosses[at] != across || rounds[at] != round)) {
                at++;
            }
            if (at >= MOST_TRACKS) {
                return;
            }
            if (at == used) {
                acrosses[at] = across;
                rounds[at] = round;
                used++;
            }
            weights[at] += body.weight;
            tracks[at]++;
        }

        int mostTracks() {
            int most = 0;
            for (int i = 0; i < used; i++) {
                most = Math.max(most, tracks[i]);
            }
            return most;
        }

        /** Nearly all TILES have no TRACKS and weigh nothing: those that have some stand behind them. */
        int middleWeight() {
            int along = downward(MOST_ACROSS, size) - downward(-MOST_ACROSS, size) + 1;
            int around = downward(ALL_ROUND - 1, size) + 1;
            int all = along * around;
            int rank = (all - 1) / 2 - (all - used);
            if (rank < 0) {
                return 0;
            }
            for (int i = 0; i < used; i++) {
                if (lessThan(i) == rank) {
                    return weights[i];
                }
            }
            return 0;
        }

        private int lessThan(int tile) {
            int fewer = 0;
            for (int i = 0; i < used; i++) {
                boolean before = weights[i] < weights[tile] || (weights[i] == weights[tile] && i < tile);
                if (before) {
                    fewer++;
                }
            }
            return fewer;
        }
    }

    /** CONES about PLACES, those that are still, and how they are shared out. */
    private static final class Cones {
        private final Body[] tracks;
        private final Sum sum;
        private final Sum otherSum;
        private final long[] sets;
        private int setCount;
        private final long[] patches;
        private int patchCount;

        Cones(Body[] tracks) {
            this.tracks = tracks;
            sum = new Sum();
            otherSum = new Sum();
            sets = new long[tracks.length];
            setCount = 0;
            patches = new long[tracks.length];
            patchCount = 0;
        }

        long tracksAbout(int across, int round, int r) {
            long set = 0L;
            for (int i = 0; i < tracks.length; i++) {
                if (tracks[i].squareTo(across, round) <= r * r) {
                    set |= bitOf(i);
                }
            }
            return set;
        }

        int weightOf(long set) {
            int weight = 0;
            for (int i = 0; i < tracks.length; i++) {
                if (isIn(set, i)) {
                    weight += tracks[i].weight;
                }
            }
            return weight;
        }

        boolean isSteady(int across, int round, long set) {
            if (set == 0) {
                return false;
            }
            sum.addAll(tracks, set);
            return sum.across == across && sum.round == round;
        }

        void findStill(int r) {
            for (int i = 0; i < tracks.length; i++) {
                long set = stillFrom(tracks[i], r);
                if (set != 0 && !isFound(set) && setCount < sets.length) {
                    sets[setCount] = set;
                    setCount++;
                }
            }
        }

        private boolean isFound(long set) {
            for (int i = 0; i < setCount; i++) {
                if (sets[i] == set) {
                    return true;
                }
            }
            return false;
        }

        /** The TRACKS of the CONE that is STEADY at last; no bits if none is, or none has TRACKS any more. */
        private long stillFrom(Body start, int r) {
            int across = start.across;
            int round = start.round;
            for (int gone = 0; gone <= MOST_GOINGS_ON; gone++) {
                long set = tracksAbout(across, round, r);
                if (set == 0) {
                    return 0L;
                }
                if (isSteady(across, round, set)) {
                    return set;
                }
                across = sum.across;
                round = sum.round;
            }
            return 0L;
        }

        long stillAt(int i) {
            if (i == NONE) {
                return setCount;
            }
            return i < 0 || i >= setCount ? NONE : sets[i];
        }

        long patchAt(int i) {
            if (i == NONE) {
                return patchCount;
            }
            return i < 0 || i >= patchCount ? NONE : patches[i];
        }

        /** Each time round, one set goes, or TRACKS that were in two sets are in one: it ends. */
        void shareOut(int f) {
            for (int i = 0; i < MOST_SHARINGS && setCount > 0; i++) {
                int one = heaviest(NONE);
                if (one == NONE) {
                    return;
                }
                int other = heaviest(one);
                if (other == NONE) {
                    makePatch(one);
                } else {
                    settle(one, other, f);
                }
            }
        }

        /** The heaviest set, the first of like ones; beside one: of those that share TRACKS with it. */
        private int heaviest(int beside) {
            int best = NONE;
            int most = 0;
            for (int i = 0; i < setCount; i++) {
                boolean counts = beside == NONE || (i != beside && (sets[i] & sets[beside]) != 0);
                int weight = weightOf(sets[i]);
                if (counts && (best == NONE || weight > most)) {
                    best = i;
                    most = weight;
                }
            }
            return best;
        }

        private void makePatch(int one) {
            if (patchCount < patches.length) {
                patches[patchCount] = sets[one];
                patchCount++;
            }
            removeSet(one);
        }

        private void removeSet(int at) {
            for (int i = at; i + 1 < setCount; i++) {
                sets[i] = sets[i + 1];
            }
            setCount--;
        }

        private void settle(int one, int other, int f) {
            long shared = sets[one] & sets[other];
            long lesser = Math.min(weightOf(sets[one]), weightOf(sets[other]));
            if ((long) weightOf(shared) * WHOLE >= f * lesser) {
                sets[one] |= sets[other];
                removeSet(other);
                return;
            }
            divide(one, other, shared);
            // The one behind goes out first, or the other would have come up to another place.
            int behind = Math.max(one, other);
            int before = Math.min(one, other);
            if (sets[behind] == 0) {
                removeSet(behind);
            }
            if (sets[before] == 0) {
                removeSet(before);
            }
        }

        private void divide(int one, int other, long shared) {
            sum.addAll(tracks, sets[one]);
            otherSum.addAll(tracks, sets[other]);
            for (int i = 0; i < tracks.length; i++) {
                if (isIn(shared, i)) {
                    int square = tracks[i].squareTo(sum.across, sum.round);
                    int otherSquare = tracks[i].squareTo(otherSum.across, otherSum.round);
                    if (otherSquare < square) {
                        sets[one] &= ~bitOf(i);
                    } else {
                        sets[other] &= ~bitOf(i);
                    }
                }
            }
        }
    }
}
