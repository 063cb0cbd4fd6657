import java.math.BigInteger;
import java.util.ArrayList;
import java.util.Arrays;
import java.util.Collections;
import java.util.Comparator;
import java.util.HashMap;
import java.util.HashSet;
import java.util.List;
import java.util.Map;
import java.util.TreeSet;

/**
 * The document once more, written as slowly and plainly as can be and with nothing of the class:
 * everything is copied whole, fractions are of BigIntegers, sets are sets. ModelTest holds the class to it.
 */
final class Model {
    static final class Spot {
        int number, across, round;
        long weight;

        Spot(int number, int across, int round, long weight) {
            this.number = number;
            this.across = across;
            this.round = round;
            this.weight = weight;
        }
    }

    static final class MKnot {
        Spot spot;
        TreeSet<Integer> leaves = new TreeSet<>();
        int one = -1, two = -1, into = -1, joined = -1, went = -1;
    }

    static final class MStep {
        int one, two, came;
        BigInteger up, down;
        /** The KNOTS left behind this STEP, and the JETS that went by then. */
        TreeSet<Integer> left = new TreeSet<>();
        TreeSet<Integer> gone = new TreeSet<>();
    }

    static final class MTree {
        int radius, power, sums, tracks;
        List<MKnot> knots = new ArrayList<>();
        List<MStep> steps = new ArrayList<>();
        List<Integer> jets = new ArrayList<>();
        List<Integer> origins;
    }

    static final class World {
        int radius = 40, power = -1, sums = 0, x = 701, hand = 0;
        List<List<Spot>> events = new ArrayList<>();
        MTree[] trees = new MTree[4];
        List<List<TreeSet<Integer>>> kept = new ArrayList<>();

        World() {
            for (int i = 0; i < 3; i++) {
                events.add(new ArrayList<>());
            }
            for (int i = 0; i < 4; i++) {
                kept.add(null);
            }
        }

        World copy() {
            World w = new World();
            w.radius = radius;
            w.power = power;
            w.sums = sums;
            w.x = x;
            w.hand = hand;
            for (int i = 0; i < 3; i++) {
                for (Spot s : events.get(i)) {
                    w.events.get(i).add(new Spot(s.number, s.across, s.round, s.weight));
                }
            }
            for (int i = 0; i < 4; i++) {
                w.trees[i] = trees[i];
                w.kept.set(i, kept.get(i));
            }
            return w;
        }
    }

    World w = new World();
    List<World> past = new ArrayList<>();
    World image = w.copy();
    List<World> imagePast = new ArrayList<>();

    // ---- helpers

    List<Spot> here() {
        return w.events.get(w.hand);
    }

    void step() {
        past.add(w.copy());
        if (past.size() > 20) {
            past.remove(0);
        }
    }

    static boolean in(long low, long value, long high) {
        return low <= value && value <= high;
    }

    static int lesser(int a, int b) {
        int best = 1000;
        for (int turn = -360; turn <= 360; turn += 360) {
            best = Math.min(best, Math.abs(a - b + turn));
        }
        return best;
    }

    static int signed(int from, int to) {
        int way = lesser(from, to);
        return (from + way) % 360 == to ? way : -way;
    }

    static long sq(Spot a, Spot b) {
        long x = a.across - b.across;
        long y = lesser(a.round, b.round);
        return x * x + y * y;
    }

    static final Comparator<Spot> AHEAD = Comparator.<Spot>comparingInt(s -> s.across)
        .thenComparingInt(s -> s.round).thenComparingLong(s -> s.weight).thenComparingInt(s -> s.number);

    static Spot mean(Spot first, Spot second, int number) {
        long both = first.weight + second.weight;
        long across = Math.floorDiv(first.weight * first.across + second.weight * second.across, both);
        long more = Math.floorDiv(second.weight * signed(first.round, second.round), both);
        return new Spot(number, (int) across, (int) Math.floorMod(first.round + more, 360L), both);
    }

    static BigInteger big(long n) {
        return BigInteger.valueOf(n);
    }

    static long bits(Iterable<Integer> set) {
        long bits = 0;
        for (int i : set) {
            bits |= 1L << i;
        }
        return bits;
    }

    static final class Choice {
        Spot one, two;
        BigInteger up, down;
    }

    static Choice alone(Spot s, int power, int radius) {
        Choice c = new Choice();
        c.one = s;
        BigInteger r = big(radius).pow(2);
        BigInteger weight = big(s.weight).pow(2);
        c.up = power == 1 ? r.multiply(weight) : r;
        c.down = power == -1 ? weight : BigInteger.ONE;
        return c;
    }

    static Choice two(Spot a, Spot b, int power) {
        Choice c = new Choice();
        c.one = AHEAD.compare(a, b) < 0 ? a : b;
        c.two = c.one == a ? b : a;
        BigInteger square = big(sq(a, b));
        c.up = power == 1 ? square.multiply(big(Math.min(a.weight, b.weight)).pow(2)) : square;
        c.down = power == -1 ? big(Math.max(a.weight, b.weight)).pow(2) : BigInteger.ONE;
        return c;
    }

    static int compare(Choice a, Choice b) {
        int c = a.up.multiply(b.down).compareTo(b.up.multiply(a.down));
        if (c != 0) {
            return c;
        }
        if ((a.two == null) != (b.two == null)) {
            return a.two == null ? -1 : 1;
        }
        c = AHEAD.compare(a.one, b.one);
        return c != 0 || a.two == null ? c : AHEAD.compare(a.two, b.two);
    }

    static MTree gathered(List<Spot> spots, int radius, int power, int sums) {
        MTree tree = new MTree();
        tree.radius = radius;
        tree.power = power;
        tree.sums = sums;
        tree.tracks = spots.size();
        TreeSet<Integer> open = new TreeSet<>();
        TreeSet<Integer> gone = new TreeSet<>();
        for (int i = 0; i < spots.size(); i++) {
            MKnot k = new MKnot();
            Spot s = spots.get(i);
            k.spot = new Spot(i, s.across, s.round, s.weight);
            k.leaves.add(i);
            tree.knots.add(k);
            open.add(i);
        }
        while (!open.isEmpty()) {
            Choice best = null;
            for (int a : open) {
                Choice c = alone(tree.knots.get(a).spot, power, radius);
                best = best == null || compare(c, best) < 0 ? c : best;
                for (int b : open.tailSet(a, false)) {
                    c = two(tree.knots.get(a).spot, tree.knots.get(b).spot, power);
                    best = compare(c, best) < 0 ? c : best;
                }
            }
            carryOut(tree, best, open, gone);
        }
        for (int j : gone) {
            tree.jets.add(j);
        }
        Comparator<Spot> heavy = Comparator.<Spot>comparingLong(s -> -s.weight).thenComparing(AHEAD);
        tree.jets.sort((a, b) -> heavy.compare(tree.knots.get(a).spot, tree.knots.get(b).spot));
        return tree;
    }

    static void carryOut(MTree tree, Choice best, TreeSet<Integer> open, TreeSet<Integer> gone) {
        MStep step = new MStep();
        int number = tree.steps.size();
        BigInteger common = best.up.gcd(best.down);
        step.up = best.up.divide(common);
        step.down = best.down.divide(common);
        step.one = best.one.number;
        step.two = best.two == null ? -1 : best.two.number;
        step.came = -1;
        open.remove(step.one);
        tree.knots.get(step.one).went = number;
        if (best.two == null) {
            gone.add(step.one);
        } else {
            step.came = tree.knots.size();
            open.remove(step.two);
            tree.knots.get(step.two).went = number;
            MKnot k = new MKnot();
            k.one = step.one;
            k.two = step.two;
            k.joined = number;
            k.leaves.addAll(tree.knots.get(step.one).leaves);
            k.leaves.addAll(tree.knots.get(step.two).leaves);
            tree.knots.get(step.one).into = step.came;
            tree.knots.get(step.two).into = step.came;
            if (tree.sums == 0) {
                k.spot = mean(best.one, best.two, step.came);
            } else {
                Spot s = best.two.weight > best.one.weight ? best.two : best.one;
                k.spot = new Spot(step.came, s.across, s.round, best.one.weight + best.two.weight);
            }
            tree.knots.add(k);
            open.add(step.came);
        }
        step.left.addAll(open);
        step.gone.addAll(gone);
        tree.steps.add(step);
    }

    MTree treeAt(int tree) {
        return in(0, tree, 3) ? w.trees[tree] : null;
    }

    MKnot knotAt(int tree, int knot) {
        MTree t = treeAt(tree);
        return t != null && in(0, knot, t.knots.size() - 1) ? t.knots.get(knot) : null;
    }

    boolean isTrack(int track) {
        return in(0, track, here().size() - 1);
    }

    static boolean place(int across, int round) {
        return in(-200, across, 200) && in(0, round, 359);
    }

    // ---- changes

    public int track(int across, int round, int weight) {
        if (!place(across, round) || !in(1, weight, 9999) || here().size() == 40) {
            return -1;
        }
        step();
        here().add(new Spot(here().size(), across, round, weight));
        return here().size() - 1;
    }

    public boolean move(int track, int across, int round) {
        if (!isTrack(track) || !place(across, round)) {
            return false;
        }
        step();
        here().get(track).across = across;
        here().get(track).round = round;
        return true;
    }

    public boolean weigh(int track, int weight) {
        if (!isTrack(track) || !in(1, weight, 9999)) {
            return false;
        }
        step();
        here().get(track).weight = weight;
        return true;
    }

    public int drop(int track) {
        if (!isTrack(track)) {
            return -1;
        }
        step();
        here().remove(track);
        renumber();
        return here().size();
    }

    void renumber() {
        for (int i = 0; i < here().size(); i++) {
            here().get(i).number = i;
        }
    }

    public int drawn(int across, int round, int spread, int n) {
        if (!place(across, round) || !in(0, spread, 60) || !in(1, n, 20) || here().size() + n > 40) {
            return -1;
        }
        step();
        for (int i = 0; i < n; i++) {
            w.x = (w.x * 821 + 631) % 30091;
            int a = across + w.x % (2 * spread + 1) - spread;
            a = a < -200 ? -200 : a > 200 ? 200 : a;
            w.x = (w.x * 821 + 631) % 30091;
            int r = (round + w.x % (2 * spread + 1) - spread + 720) % 360;
            w.x = (w.x * 821 + 631) % 30091;
            here().add(new Spot(here().size(), a, r, w.x % 500 + 1));
        }
        return here().size();
    }

    public boolean tell(int x) {
        if (!in(0, x, 30090)) {
            return false;
        }
        w.x = x;
        return true;
    }

    public boolean set(int what, int value) {
        boolean good = what == 0 && in(1, value, 200) || what == 1 && in(-1, value, 1)
            || what == 2 && in(0, value, 1);
        if (!good) {
            return false;
        }
        step();
        if (what == 0) {
            w.radius = value;
        } else if (what == 1) {
            w.power = value;
        } else {
            w.sums = value;
        }
        return true;
    }

    public int gather(int tree) {
        if (!in(0, tree, 3) || here().isEmpty()) {
            return -1;
        }
        step();
        w.trees[tree] = gathered(here(), w.radius, w.power, w.sums);
        return w.trees[tree].jets.size();
    }

    public int keep(int as, int tree, int n) {
        TreeSet<Integer> cut = in(0, as, 3) ? cutSet(tree, n) : null;
        if (cut == null) {
            return -1;
        }
        step();
        List<TreeSet<Integer>> sets = new ArrayList<>();
        for (int k : cut) {
            sets.add(new TreeSet<>(w.trees[tree].knots.get(k).leaves));
        }
        w.kept.set(as, sets);
        return sets.size();
    }

    public int apart(int tree, int knot, int power, int r, int into) {
        MKnot k = knotAt(tree, knot);
        if (k == null || !in(-1, power, 1) || !in(1, r, 200) || !in(0, into, 3)) {
            return -1;
        }
        step();
        w.trees[into] = partOf(w.trees[tree], k, power, r);
        return w.trees[into].jets.size();
    }

    static MTree partOf(MTree t, MKnot k, int power, int r) {
        List<Spot> spots = new ArrayList<>();
        for (int leaf : k.leaves) {
            spots.add(t.knots.get(leaf).spot);
        }
        MTree part = gathered(spots, r, power, t.sums);
        part.origins = new ArrayList<>(k.leaves);
        return part;
    }

    public int hand(int event) {
        if (!in(0, event, 2) || event == w.hand) {
            return -1;
        }
        step();
        w.hand = event;
        return here().size();
    }

    public int mix(int event, int turn) {
        if (!in(0, event, 2) || event == w.hand || !in(0, turn, 359)
            || here().size() + w.events.get(event).size() > 40) {
            return -1;
        }
        step();
        for (Spot s : w.events.get(event)) {
            here().add(new Spot(0, s.across, (s.round + turn) % 360, s.weight));
        }
        renumber();
        return here().size();
    }

    public boolean free(int tree) {
        if (treeAt(tree) == null) {
            return false;
        }
        step();
        w.trees[tree] = null;
        return true;
    }

    public int undo() {
        if (past.isEmpty()) {
            return -1;
        }
        w = past.remove(past.size() - 1);
        return past.size();
    }

    // ---- what is

    public int is(int what) {
        int bits = 0;
        for (int i = 0; i < 4; i++) {
            bits += w.trees[i] == null ? 0 : 1 << i;
        }
        int weight = 0;
        for (Spot s : here()) {
            weight += s.weight;
        }
        int[] all = {w.radius, w.power, w.sums, here().size(), w.x, bits, weight, w.hand};
        return in(0, what, 7) ? all[what] : -2;
    }

    public int of(int track, int what) {
        if (!isTrack(track) || !in(0, what, 2)) {
            return -1000;
        }
        Spot s = here().get(track);
        return new int[] {s.across, s.round, (int) s.weight}[what];
    }

    public int square(int track, int other) {
        return isTrack(track) && isTrack(other) ? (int) sq(here().get(track), here().get(other)) : -1;
    }

    public int nearest(int track) {
        if (!isTrack(track)) {
            return -1;
        }
        List<Spot> others = new ArrayList<>(here());
        Spot me = others.remove(track);
        others.sort(Comparator.<Spot>comparingLong(s -> sq(me, s)).thenComparing(AHEAD));
        return others.isEmpty() ? -1 : others.get(0).number;
    }

    public int tree(int tree, int what) {
        MTree t = treeAt(tree);
        if (t == null || !in(0, what, 6)) {
            return -2;
        }
        return new int[] {t.knots.size(), t.steps.size(), t.jets.size(), t.tracks, t.radius, t.power, t.sums}[what];
    }

    public int knot(int tree, int knot, int what) {
        MKnot k = knotAt(tree, knot);
        if (k == null || !in(0, what, 7)) {
            return -1000;
        }
        return new int[] {k.spot.across, k.spot.round, (int) k.spot.weight, k.one, k.two, k.into, k.joined, k.went}[what];
    }

    public int origin(int tree, int track) {
        MTree t = treeAt(tree);
        return t != null && t.origins != null && in(0, track, t.tracks - 1) ? t.origins.get(track) : -1;
    }

    MStep stepAt(int tree, int step) {
        MTree t = treeAt(tree);
        return t != null && in(0, step, t.steps.size() - 1) ? t.steps.get(step) : null;
    }

    public int step(int tree, int step, int what) {
        MStep s = stepAt(tree, step);
        return s == null || !in(0, what, 2) ? -2 : new int[] {s.one, s.two, s.came}[what];
    }

    public long up(int tree, int step) {
        MStep s = stepAt(tree, step);
        return s == null ? -1 : s.up.longValueExact();
    }

    public long down(int tree, int step) {
        MStep s = stepAt(tree, step);
        return s == null ? -1 : s.down.longValueExact();
    }

    public long leaves(int tree, int knot) {
        MKnot k = knotAt(tree, knot);
        return k == null ? 0 : bits(k.leaves);
    }

    public int jet(int tree, int i) {
        MTree t = treeAt(tree);
        return t != null && in(0, i, t.jets.size() - 1) ? t.jets.get(i) : -1;
    }

    public int jetOf(int tree, int track) {
        MTree t = treeAt(tree);
        if (t == null || !in(0, track, t.tracks - 1)) {
            return -1;
        }
        int k = track;
        while (t.knots.get(k).into != -1) {
            k = t.knots.get(k).into;
        }
        return k;
    }

    static int pick(TreeSet<Integer> set, int i) {
        if (set == null) {
            return -1;
        }
        return i == -1 ? set.size() : in(0, i, set.size() - 1) ? new ArrayList<>(set).get(i) : -1;
    }

    static TreeSet<Integer> leftBehind(MTree t, int n, boolean withJets) {
        TreeSet<Integer> set = new TreeSet<>();
        if (n == 0) {
            for (int i = 0; i < t.tracks; i++) {
                set.add(i);
            }
            return set;
        }
        set.addAll(t.steps.get(n - 1).left);
        if (withJets) {
            set.addAll(t.steps.get(n - 1).gone);
        }
        return set;
    }

    public int left(int tree, int n, int i) {
        MTree t = treeAt(tree);
        return t == null || !in(0, n, t.steps.size()) ? -1 : pick(leftBehind(t, n, false), i);
    }

    TreeSet<Integer> cutSet(int tree, int n) {
        MTree t = treeAt(tree);
        if (t == null || !in(1, n, 40)) {
            return null;
        }
        for (int s = 0; s <= t.steps.size(); s++) {
            TreeSet<Integer> set = leftBehind(t, s, true);
            if (set.size() <= n) {
                return set;
            }
        }
        return null;
    }

    public int cut(int tree, int n, int i) {
        return pick(cutSet(tree, n), i);
    }

    public int cutBy(int tree, int up, int down, int i) {
        MTree t = treeAt(tree);
        if (t == null || up < 0 || down < 1) {
            return -1;
        }
        int s = 0;
        while (s < t.steps.size() && t.steps.get(s).up.multiply(big(down))
            .compareTo(t.steps.get(s).down.multiply(big(up))) <= 0) {
            s++;
        }
        return pick(leftBehind(t, s, true), i);
    }

    public int together(int tree, int track, int other) {
        MTree t = treeAt(tree);
        if (t == null || track == other || !in(0, track, t.tracks - 1) || !in(0, other, t.tracks - 1)) {
            return -1;
        }
        for (int s = 0; s < t.steps.size(); s++) {
            int came = t.steps.get(s).came;
            if (came != -1 && t.knots.get(came).leaves.contains(track) && t.knots.get(came).leaves.contains(other)) {
                return s;
            }
        }
        return -1;
    }

    // ---- branches

    static int lighter(MTree t, MKnot k) {
        Spot one = t.knots.get(k.one).spot;
        Spot two = t.knots.get(k.two).spot;
        if (one.weight != two.weight) {
            return one.weight < two.weight ? k.one : k.two;
        }
        return AHEAD.compare(one, two) < 0 ? k.two : k.one;
    }

    static int heavier(MTree t, MKnot k) {
        return lighter(t, k) == k.one ? k.two : k.one;
    }

    static long parts(MTree t, MKnot k) {
        return sq(t.knots.get(k.one).spot, t.knots.get(k.two).spot);
    }

    public int groom(int tree, int knot, int z, int slope) {
        MKnot k = knotAt(tree, knot);
        if (k == null || !in(0, z, 1000) || !in(0, slope, 1)) {
            return -1;
        }
        MTree t = w.trees[tree];
        if (k.one == -1) {
            return knot;
        }
        BigInteger light = big(t.knots.get(lighter(t, k)).spot.weight * 1000);
        BigInteger both = big(z).multiply(big(k.spot.weight));
        if (slope == 1) {
            light = light.multiply(big(t.radius).pow(2));
            both = both.multiply(big(parts(t, k)));
        }
        return light.compareTo(both) < 0 ? groom(tree, heavier(t, k), z, slope) : knot;
    }

    public long trim(int tree, int knot, int r, int z) {
        MKnot k = knotAt(tree, knot);
        if (k == null || !in(0, z, 1000) || !in(1, r, 200)) {
            return 0;
        }
        MTree part = partOf(w.trees[tree], k, w.trees[tree].power, r);
        TreeSet<Integer> stay = new TreeSet<>();
        for (int j : part.jets) {
            if (part.knots.get(j).spot.weight * 1000 >= z * k.spot.weight) {
                for (int leaf : part.knots.get(j).leaves) {
                    stay.add(part.origins.get(leaf));
                }
            }
        }
        return bits(stay);
    }

    public long prune(int tree, int knot, int z, int r) {
        MKnot k = knotAt(tree, knot);
        if (k == null || !in(0, z, 1000) || !in(1, r, 200)) {
            return 0;
        }
        MTree t = w.trees[tree];
        if (k.one == -1) {
            return 1L << knot;
        }
        boolean weak = t.knots.get(lighter(t, k)).spot.weight * 1000 < z * k.spot.weight;
        if (weak && parts(t, k) > (long) r * r) {
            return prune(tree, heavier(t, k), z, r);
        }
        return prune(tree, k.one, z, r) | prune(tree, k.two, z, r);
    }

    public int split(int tree, int knot, int i, int what) {
        MKnot k = knotAt(tree, knot);
        if (k == null) {
            return -1;
        }
        MTree t = w.trees[tree];
        List<Integer> chain = new ArrayList<>();
        for (int at = knot; t.knots.get(at).one != -1; at = heavier(t, t.knots.get(at))) {
            chain.add(at);
        }
        if (i == -1) {
            return chain.size();
        }
        if (!in(0, i, chain.size() - 1) || !in(0, what, 2)) {
            return -1;
        }
        MKnot at = t.knots.get(chain.get(i));
        long share = t.knots.get(lighter(t, at)).spot.weight * 1000 / at.spot.weight;
        return what == 0 ? chain.get(i) : what == 1 ? (int) share : (int) parts(t, at);
    }

    static long quotient(long sum, long by) {
        return Double.doubleToLongBits((double) sum / (double) by);
    }

    public long width(int tree, int knot) {
        return tau(tree, knot, 1);
    }

    public long closeness(int tree, int knot) {
        MKnot k = knotAt(tree, knot);
        if (k == null) {
            return 0;
        }
        long sum = 0;
        for (int a : k.leaves) {
            for (int b : k.leaves.tailSet(a, false)) {
                Spot one = w.trees[tree].knots.get(a).spot;
                Spot two = w.trees[tree].knots.get(b).spot;
                sum += one.weight * two.weight * sq(one, two);
            }
        }
        return quotient(sum, k.spot.weight * k.spot.weight);
    }

    public long kept(int as, int i) {
        List<TreeSet<Integer>> sets = in(0, as, 3) ? w.kept.get(as) : null;
        if (sets == null) {
            return -1;
        }
        return i == -1 ? sets.size() : in(0, i, sets.size() - 1) ? bits(sets.get(i)) : -1;
    }

    public boolean within(int as, int other) {
        if (!in(0, as, 3) || !in(0, other, 3) || w.kept.get(as) == null || w.kept.get(other) == null) {
            return false;
        }
        for (TreeSet<Integer> set : w.kept.get(as)) {
            boolean found = false;
            for (TreeSet<Integer> outer : w.kept.get(other)) {
                found |= outer.containsAll(set);
            }
            if (!found) {
                return false;
            }
        }
        return true;
    }

    public long tau(int tree, int knot, int n) {
        MKnot k = knotAt(tree, knot);
        if (k == null || !in(1, n, 9)) {
            return 0;
        }
        MTree t = w.trees[tree];
        TreeSet<Integer> axes = new TreeSet<>();
        axes.add(knot);
        for (int i = 1; i < n; i++) {
            int latest = axes.last();
            if (t.knots.get(latest).one != -1) {
                axes.remove(latest);
                axes.add(t.knots.get(latest).one);
                axes.add(t.knots.get(latest).two);
            }
        }
        long sum = 0;
        for (int leaf : k.leaves) {
            long least = Long.MAX_VALUE;
            for (int axis : axes) {
                least = Math.min(least, sq(t.knots.get(leaf).spot, t.knots.get(axis).spot));
            }
            sum += t.knots.get(leaf).spot.weight * least;
        }
        return quotient(sum, k.spot.weight);
    }

    // ---- jets, two trees

    public int matched(int tree, int jet, int other) {
        MKnot k = knotAt(tree, jet);
        MTree o = treeAt(other);
        if (k == null || o == null || k.into != -1) {
            return -1;
        }
        int best = -1;
        long most = 0;
        for (int j : o.jets) {
            TreeSet<Integer> shared = new TreeSet<>(o.knots.get(j).leaves);
            shared.retainAll(k.leaves);
            long weight = 0;
            for (int leaf : shared) {
                weight += w.trees[tree].knots.get(leaf).spot.weight;
            }
            if (weight > most) {
                most = weight;
                best = j;
            }
        }
        return best;
    }

    static List<TreeSet<Integer>> jetSets(MTree t) {
        List<TreeSet<Integer>> sets = new ArrayList<>();
        for (int j : t.jets) {
            sets.add(t.knots.get(j).leaves);
        }
        return sets;
    }

    public boolean alike(int tree, int other) {
        if (treeAt(tree) == null || treeAt(other) == null) {
            return false;
        }
        List<TreeSet<Integer>> one = jetSets(treeAt(tree));
        List<TreeSet<Integer>> two = jetSets(treeAt(other));
        return one.containsAll(two) && two.containsAll(one) && one.size() == two.size();
    }

    public int unlike(int tree, int other) {
        if (treeAt(tree) == null || treeAt(other) == null) {
            return -1;
        }
        List<TreeSet<Integer>> one = jetSets(treeAt(tree));
        one.removeAll(jetSets(treeAt(other)));
        return one.size();
    }

    public int backToBack(int tree) {
        MTree t = treeAt(tree);
        return t == null || t.jets.size() < 2 ? -1
            : lesser(t.knots.get(t.jets.get(0)).spot.round, t.knots.get(t.jets.get(1)).spot.round);
    }

    public boolean fresh(int tree) {
        MTree t = treeAt(tree);
        if (t == null) {
            return false;
        }
        MTree anew = gathered(here(), w.radius, w.power, w.sums);
        boolean same = anew.steps.size() == t.steps.size();
        for (int i = 0; same && i < t.steps.size(); i++) {
            MStep a = t.steps.get(i);
            MStep b = anew.steps.get(i);
            same = a.one == b.one && a.two == b.two && a.came == b.came && a.up.equals(b.up) && a.down.equals(b.down);
        }
        return same;
    }

    public long pair(int tree, int i, int j) {
        MTree t = treeAt(tree);
        if (t == null || i < 0 || i >= j || j >= t.jets.size()) {
            return -1;
        }
        Spot a = t.knots.get(t.jets.get(i)).spot;
        Spot b = t.knots.get(t.jets.get(j)).spot;
        return a.weight * b.weight * sq(a, b);
    }

    public int nearestPair(int tree, long mark) {
        MTree t = treeAt(tree);
        if (t == null || mark < 0) {
            return -1;
        }
        int best = -1;
        BigInteger least = null;
        for (int i = 0; i < t.jets.size(); i++) {
            for (int j = i + 1; j < t.jets.size(); j++) {
                BigInteger off = big(pair(tree, i, j)).subtract(big(mark)).abs();
                if (least == null || off.compareTo(least) < 0) {
                    least = off;
                    best = 40 * i + j;
                }
            }
        }
        return best;
    }

    public int count(int tree, int weight, int a) {
        MTree t = treeAt(tree);
        if (t == null || weight < 0 || !in(0, a, 200)) {
            return -1;
        }
        int n = 0;
        for (int j : t.jets) {
            Spot s = t.knots.get(j).spot;
            n += s.weight >= weight && in(-a, s.across, a) ? 1 : 0;
        }
        return n;
    }

    public int common(int tree, int other) {
        if (treeAt(tree) == null || treeAt(other) == null) {
            return -1;
        }
        int n = 0;
        for (MKnot k : treeAt(tree).knots) {
            boolean found = false;
            for (MKnot o : treeAt(other).knots) {
                found |= o.one != -1 && o.leaves.equals(k.leaves);
            }
            n += found && k.one != -1 ? 1 : 0;
        }
        return n;
    }

    // ---- how tracks lie

    List<Choice> spanned() {
        List<Choice> twos = new ArrayList<>();
        for (Spot a : here()) {
            for (Spot b : here()) {
                if (a.number < b.number) {
                    twos.add(two(a, b, 0));
                }
            }
        }
        twos.sort(Model::compare);
        List<Choice> taken = new ArrayList<>();
        for (Choice c : twos) {
            TreeSet<Integer> reached = new TreeSet<>();
            reached.add(c.one.number);
            for (int round = 0; round < 40; round++) {
                for (Choice t : taken) {
                    if (reached.contains(t.one.number) || reached.contains(t.two.number)) {
                        reached.add(t.one.number);
                        reached.add(t.two.number);
                    }
                }
            }
            if (!reached.contains(c.two.number)) {
                taken.add(c);
            }
        }
        return taken;
    }

    public int span(int i, int what) {
        List<Choice> taken = spanned();
        if (i == -1) {
            return what == 0 ? taken.size() : -1;
        }
        if (!in(0, i, taken.size() - 1) || !in(0, what, 2)) {
            return -1;
        }
        Choice c = taken.get(i);
        return what == 0 ? c.one.number : what == 1 ? c.two.number : c.up.intValueExact();
    }

    public int gap(int what) {
        if (here().isEmpty() || !in(0, what, 1)) {
            return -1;
        }
        TreeSet<Integer> rounds = new TreeSet<>();
        for (Spot s : here()) {
            rounds.add(s.round);
        }
        int best = -1;
        int begin = -1;
        for (int r : rounds) {
            Integer next = rounds.higher(r);
            int way = next == null ? rounds.first() + 360 - r : next - r;
            if (way > best) {
                best = way;
                begin = r;
            }
        }
        return what == 0 ? best : begin;
    }

    static Map<List<Integer>, List<Spot>> tiled(List<Spot> spots, int size) {
        Map<List<Integer>, List<Spot>> tiles = new HashMap<>();
        for (Spot s : spots) {
            List<Integer> key = List.of(Math.floorDiv(s.across, size), Math.floorDiv(s.round, size));
            tiles.computeIfAbsent(key, k -> new ArrayList<>()).add(s);
        }
        return tiles;
    }

    public int tiles(int size, int what) {
        if (!in(1, size, 100) || !in(0, what, 1)) {
            return -1;
        }
        int most = 0;
        for (List<Spot> spots : tiled(here(), size).values()) {
            most = Math.max(most, spots.size());
        }
        return what == 0 ? tiled(here(), size).size() : most;
    }

    long about(Spot centre, int r) {
        long set = 0;
        for (Spot s : here()) {
            set |= sq(s, centre) <= (long) r * r ? 1L << s.number : 0;
        }
        return set;
    }

    long weigh(long set) {
        long weight = 0;
        for (Spot s : here()) {
            weight += (set >> s.number & 1) * s.weight;
        }
        return weight;
    }

    Spot placeOf(long set) {
        Spot place = null;
        for (Spot s : here()) {
            if ((set >> s.number & 1) == 1) {
                place = place == null ? s : mean(place, s, -1);
            }
        }
        return place;
    }

    boolean steady(Spot centre, int r) {
        Spot place = placeOf(about(centre, r));
        return place != null && place.across == centre.across && place.round == centre.round;
    }

    public int cone(int across, int round, int r, int what) {
        if (!place(across, round) || !in(1, r, 200) || !in(0, what, 2)) {
            return -1;
        }
        Spot centre = new Spot(-1, across, round, 0);
        long set = about(centre, r);
        return what == 0 ? Long.bitCount(set) : what == 1 ? (int) weigh(set) : steady(centre, r) ? 1 : 0;
    }

    List<Long> stillSets(int r) {
        List<Long> sets = new ArrayList<>();
        for (Spot s : here()) {
            Spot centre = s;
            int gone = 0;
            while (centre != null && !steady(centre, r) && gone < 20) {
                centre = placeOf(about(centre, r));
                gone++;
            }
            if (centre != null && steady(centre, r) && !sets.contains(about(centre, r))) {
                sets.add(about(centre, r));
            }
        }
        return sets;
    }

    static long pickLong(List<Long> list, int i) {
        return i == -1 ? list.size() : in(0, i, list.size() - 1) ? list.get(i) : -1;
    }

    public long still(int r, int i) {
        return in(1, r, 200) ? pickLong(stillSets(r), i) : -1;
    }

    public long patch(int r, int f, int i) {
        if (!in(1, r, 200) || !in(0, f, 1000)) {
            return -1;
        }
        List<Long> sets = stillSets(r);
        List<Long> patches = new ArrayList<>();
        while (!sets.isEmpty()) {
            int one = heaviest(sets, -1);
            int other = heaviest(sets, one);
            if (other == -1) {
                patches.add(sets.remove(one));
                continue;
            }
            long shared = sets.get(one) & sets.get(other);
            if (weigh(shared) * 1000 >= f * Math.min(weigh(sets.get(one)), weigh(sets.get(other)))) {
                sets.set(one, sets.get(one) | sets.get(other));
                sets.remove(other);
                continue;
            }
            Spot place = placeOf(sets.get(one));
            Spot otherPlace = placeOf(sets.get(other));
            for (Spot s : here()) {
                long bit = 1L << s.number;
                if ((shared & bit) != 0) {
                    int loser = sq(s, otherPlace) < sq(s, place) ? one : other;
                    sets.set(loser, sets.get(loser) & ~bit);
                }
            }
            sets.removeAll(Collections.singleton(0L));
        }
        return pickLong(patches, i);
    }

    int heaviest(List<Long> sets, int beside) {
        int best = -1;
        for (int i = 0; i < sets.size(); i++) {
            if (i == beside || beside != -1 && (sets.get(i) & sets.get(beside)) == 0) {
                continue;
            }
            if (best == -1 || weigh(sets.get(i)) > weigh(sets.get(best))) {
                best = i;
            }
        }
        return best;
    }

    public int pedestal(int size) {
        if (!in(1, size, 100)) {
            return -1;
        }
        long[] weights = new long[allTiles(size)];
        int used = 0;
        for (List<Spot> spots : tiled(here(), size).values()) {
            for (Spot s : spots) {
                weights[used] += s.weight;
            }
            used++;
        }
        Arrays.sort(weights);
        return (int) weights[(weights.length - 1) / 2];
    }

    static final int[] ALL_TILES = new int[101];

    /** Counted place by place, once for each size. */
    static int allTiles(int size) {
        if (ALL_TILES[size] == 0) {
            HashSet<List<Integer>> all = new HashSet<>();
            for (int a = -200; a <= 200; a++) {
                for (int r = 0; r < 360; r++) {
                    all.add(List.of(Math.floorDiv(a, size), r / size));
                }
            }
            ALL_TILES[size] = all.size();
        }
        return ALL_TILES[size];
    }

    public int clean(int tree, int jet, int size) {
        MKnot k = knotAt(tree, jet);
        if (k == null || k.into != -1 || !in(1, size, 100)) {
            return -1;
        }
        List<Spot> spots = new ArrayList<>();
        for (int leaf : k.leaves) {
            spots.add(w.trees[tree].knots.get(leaf).spot);
        }
        return (int) Math.max(0, k.spot.weight - (long) pedestal(size) * tiled(spots, size).size());
    }

    public int balance(int round) {
        if (!in(0, round, 359)) {
            return 0;
        }
        int sum = 0;
        for (Spot s : here()) {
            sum += lesser(s.round, round) < 90 ? s.weight : -s.weight;
        }
        return sum;
    }

    public int axis() {
        int best = 0;
        for (int r = 0; r < 360; r++) {
            best = balance(r) > balance(best) ? r : best;
        }
        return best;
    }

    public int image() {
        image = w.copy();
        imagePast = copies(past);
        return here().size();
    }

    public int back() {
        w = image.copy();
        past = copies(imagePast);
        return here().size();
    }

    static List<World> copies(List<World> worlds) {
        List<World> copies = new ArrayList<>();
        for (World world : worlds) {
            copies.add(world.copy());
        }
        return copies;
    }

    public int steps() {
        return past.size();
    }
}
