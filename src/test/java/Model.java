import java.util.ArrayDeque;
import java.util.ArrayList;
import java.util.Comparator;
import java.util.HashMap;
import java.util.HashSet;
import java.util.List;
import java.util.Map;
import java.util.Set;
import java.util.TreeMap;
import java.util.TreeSet;

/**
 * The document told over again with the Java library, as literally as it goes, for comparison:
 * slow, wasteful, and written apart from the class that it is compared with.
 */
public final class Model {
    static final class Spot {
        final int[] at;
        int level;
        Integer parent;
        String name;

        Spot(int x, int y, int z) {
            at = new int[] {x, y, z};
        }

        Spot copy() {
            Spot s = new Spot(at[0], at[1], at[2]);
            s.level = level;
            s.parent = parent;
            s.name = name;
            return s;
        }
    }

    static final class World {
        TreeMap<Integer, Spot> spots = new TreeMap<>();
        Integer measure;

        World copy() {
            World w = new World();
            w.measure = measure;
            spots.forEach((n, s) -> w.spots.put(n, s.copy()));
            return w;
        }

        int far(int[] a, int[] b) {
            return farBy(measure, a, b);
        }

        int far(int p, int q) {
            return far(spots.get(p).at, spots.get(q).at);
        }

        Integer root() {
            for (Map.Entry<Integer, Spot> e : spots.entrySet()) {
                if (e.getValue().level == 10) {
                    return e.getKey();
                }
            }
            return null;
        }

        List<Integer> net(int level) {
            List<Integer> net = new ArrayList<>();
            spots.forEach((n, s) -> {
                if (s.level >= level) {
                    net.add(n);
                }
            });
            return net;
        }

        boolean someNearer(int k, int[] at) {
            return net(k).stream().anyMatch(n -> far(spots.get(n).at, at) < Math.pow(2, k));
        }

        Integer nearest(List<Integer> of, int[] at) {
            return of.stream().min(Comparator.comparingInt((Integer n) -> far(spots.get(n).at, at))
                    .thenComparingInt(n -> n)).orElse(null);
        }

        int[] wouldCome(int[] at) {
            if (spots.isEmpty()) {
                return new int[] {10, -1};
            }
            int k = 1;
            while (!someNearer(k, at)) {
                k++;
            }
            return new int[] {k - 1, nearest(net(k), at)};
        }

        void come(int number, int[] at, String name) {
            int[] would = wouldCome(at);
            Spot s = new Spot(at[0], at[1], at[2]);
            s.level = would[0];
            s.parent = would[1] < 0 ? null : (Integer) would[1];
            s.name = name;
            spots.put(number, s);
        }

        void go(int number) {
            Spot gone = spots.remove(number);
            List<Integer> left = children(number);
            if (gone.level == 10 && !left.isEmpty()) {
                Spot first = spots.get(left.remove(0));
                first.level = 10;
                first.parent = null;
            }
            for (int n : left) {
                Spot s = spots.get(n);
                while (!someNearer(s.level + 1, s.at)) {
                    s.level++;
                }
                s.parent = nearest(net(s.level + 1), s.at);
            }
        }

        void anew() {
            TreeMap<Integer, Spot> old = spots;
            spots = new TreeMap<>();
            old.forEach((n, s) -> come(n, s.at, s.name));
        }

        List<Integer> children(int number) {
            List<Integer> children = new ArrayList<>();
            spots.forEach((n, s) -> {
                if (s.parent != null && s.parent == number) {
                    children.add(n);
                }
            });
            children.sort(Comparator.comparingInt((Integer n) -> -spots.get(n).level).thenComparingInt(n -> n));
            return children;
        }

        Set<Integer> below(int number) {
            Set<Integer> below = new TreeSet<>();
            for (int c : children(number)) {
                below.add(c);
                below.addAll(below(c));
            }
            return below;
        }

        Set<Integer> spared(int number, int k) {
            Set<Integer> spared = new TreeSet<>();
            for (int c : children(number)) {
                if (spots.get(c).level < k - 1) {
                    spared.add(c);
                    spared.addAll(below(c));
                }
            }
            return spared;
        }

        int above(int number, int level) {
            return spots.get(number).level >= level ? number : above(spots.get(number).parent, level);
        }

        int free() {
            int n = 0;
            while (spots.containsKey(n)) {
                n++;
            }
            return n;
        }

        Integer on(int[] at) {
            for (Map.Entry<Integer, Spot> e : spots.entrySet()) {
                if (java.util.Arrays.equals(e.getValue().at, at)) {
                    return e.getKey();
                }
            }
            return null;
        }

        List<Integer> thinned() {
            List<Integer> order = new ArrayList<>();
            if (spots.isEmpty()) {
                return order;
            }
            order.add(root());
            while (order.size() < spots.size()) {
                int next = -1;
                int most = -1;
                for (int n : spots.keySet()) {
                    if (!order.contains(n)) {
                        int least = order.stream().mapToInt(o -> far(o, n)).min().getAsInt();
                        if (least > most) {
                            most = least;
                            next = n;
                        }
                    }
                }
                order.add(next);
            }
            return order;
        }

        List<int[]> pairs() {
            List<int[]> pairs = new ArrayList<>();
            for (int p : spots.keySet()) {
                for (int q : spots.keySet()) {
                    if (p < q) {
                        pairs.add(new int[] {p, q, far(p, q)});
                    }
                }
            }
            return pairs;
        }

        List<int[]> links() {
            List<int[]> links = new ArrayList<>();
            Map<Integer, Integer> part = new HashMap<>();
            spots.keySet().forEach(n -> part.put(n, n));
            List<int[]> pairs = pairs();
            pairs.sort(Comparator.comparingInt(p -> p[2]));
            for (int[] pair : pairs) {
                int a = part.get(pair[0]);
                int b = part.get(pair[1]);
                if (a != b) {
                    links.add(pair);
                    part.replaceAll((n, g) -> g == a ? b : g);
                }
            }
            return links;
        }

        Map<Integer, Integer> groups(int length) {
            Map<Integer, Integer> least = new TreeMap<>();
            for (int n : spots.keySet()) {
                if (least.containsKey(n)) {
                    continue;
                }
                ArrayDeque<Integer> todo = new ArrayDeque<>(List.of(n));
                while (!todo.isEmpty()) {
                    int p = todo.poll();
                    if (least.putIfAbsent(p, n) == null) {
                        for (int[] l : links()) {
                            if (l[2] <= length && (l[0] == p || l[1] == p)) {
                                todo.add(l[0] + l[1] - p);
                            }
                        }
                    }
                }
            }
            return least;
        }
    }

    static int farBy(int measure, int[] a, int[] b) {
        int sum = 0;
        int most = 0;
        int bits = 0;
        for (int i = 0; i < 3; i++) {
            int d = Math.abs(a[i] - b[i]);
            sum += d;
            most = Math.max(most, d);
            for (int bit = 0; bit < 8; bit++) {
                if ((a[i] >> bit & 1) != (b[i] >> bit & 1)) {
                    bits++;
                }
            }
        }
        return measure == 0 ? sum : measure == 1 ? most : bits;
    }

    static boolean isPlace(int x, int y, int z) {
        return Math.min(x, Math.min(y, z)) >= 0 && Math.max(x, Math.max(y, z)) <= 255;
    }

    private World world = new World();
    private List<Integer> tape = new ArrayList<>();
    private final List<World> past = new ArrayList<>();
    private final List<int[]> seenRows = new ArrayList<>();
    private final int[] refused = new int[6];
    private int faultKind = 0;
    private int faultAt = -1;
    private long x = 1;
    private int[] foundNow;
    private List<int[]> prunedNow = new ArrayList<>();
    private List<Integer> imageNow = new ArrayList<>();

    private int no(int kind) {
        refused[kind]++;
        return -1;
    }

    private List<Integer> takeTape() {
        List<Integer> t = tape;
        tape = new ArrayList<>();
        return t;
    }

    private Spot spot(int p) {
        return world.spots.get(p);
    }

    private static int orNone(Integer n) {
        return n == null ? -1 : n;
    }

    private void act() {
        past.add(world.copy());
        if (past.size() > 20) {
            past.remove(0);
        }
    }

    public int feed(int a, int b, int c, int d, int e) {
        if (tape.size() > 1580) {
            return no(0);
        }
        for (int n : new int[] {a, b, c, d, e}) {
            for (byte o : java.nio.ByteBuffer.allocate(4).putInt(n).array()) {
                tape.add(Byte.toUnsignedInt(o));
            }
        }
        return tape.size();
    }

    public boolean end(int n) {
        if (n < 0 || n > tape.size()) {
            no(0);
            return false;
        }
        tape = new ArrayList<>(tape.subList(0, n));
        return true;
    }

    static final class Fault extends Exception {
        private static final long serialVersionUID = 1L;
        final int kind;
        final int at;

        Fault(int kind, int at) {
            this.kind = kind;
            this.at = at;
        }
    }

    /** Splits the text into words, numbers and single signs, then follows the grammar over these. */
    static final class Grammar {
        final List<String> tokens = new ArrayList<>();
        final List<Integer> starts = new ArrayList<>();
        final int length;
        int i = 0;

        Grammar(List<Integer> bytes) {
            StringBuilder b = new StringBuilder();
            bytes.forEach(o -> b.append((char) (int) o));
            length = b.length();
            java.util.regex.Matcher m = java.util.regex.Pattern.compile("[a-z]+|[0-9]+|[^ \n]", java.util.regex.Pattern.DOTALL)
                    .matcher(b);
            while (m.find()) {
                tokens.add(m.group());
                starts.add(m.start());
            }
        }

        int start() {
            return i < starts.size() ? starts.get(i) : length;
        }

        String token() {
            return i < tokens.size() ? tokens.get(i) : "";
        }

        void expect(String word) throws Fault {
            if (!token().equals(word)) {
                throw new Fault(1, start());
            }
            i++;
        }

        int number() throws Fault {
            String t = token();
            boolean aside = i > 0 && starts.get(i - 1) + tokens.get(i - 1).length() == start();
            if (t.isEmpty() || aside || !Character.isDigit(t.charAt(0))) {
                throw new Fault(1, start());
            }
            if (t.length() > 3) {
                throw new Fault(1, start() + 3);
            }
            if (Integer.parseInt(t) > 255) {
                throw new Fault(2, start());
            }
            i++;
            return Integer.parseInt(t);
        }

        String name() throws Fault {
            String t = token();
            if (!t.matches("[a-z]+") || List.of("set", "by", "sum", "most", "bits", "point", "at").contains(t)) {
                throw new Fault(1, start());
            }
            if (t.length() > 6) {
                throw new Fault(1, start() + 6);
            }
            i++;
            return t;
        }

        World read() throws Fault {
            World w = new World();
            expect("set");
            expect("by");
            w.measure = List.of("sum", "most", "bits").indexOf(token());
            if (w.measure < 0) {
                throw new Fault(1, start());
            }
            i++;
            expect(";");
            while (i < tokens.size()) {
                int word = start();
                expect("point");
                if (w.spots.size() == 40) {
                    throw new Fault(5, word);
                }
                int nameAt = start();
                String name = name();
                if (w.spots.values().stream().anyMatch(s -> s.name.equals(name))) {
                    throw new Fault(3, nameAt);
                }
                expect("at");
                int placeAt = start();
                int[] at = {number(), number(), number()};
                if (w.on(at) != null) {
                    throw new Fault(4, placeAt);
                }
                expect(";");
                w.come(w.spots.size(), at, name);
            }
            return w;
        }
    }

    public int set() {
        try {
            world = new Grammar(takeTape()).read();
        } catch (Fault f) {
            faultKind = f.kind;
            faultAt = f.at;
            return no(1);
        }
        faultKind = 0;
        faultAt = -1;
        past.clear();
        seenRows.clear();
        foundNow = null;
        prunedNow = new ArrayList<>();
        return 1 + world.spots.size();
    }

    public int fault(int what) {
        return what == 0 ? faultKind : what == 1 ? faultAt : -1;
    }

    public int has(int what) {
        switch (what) {
            case 0: return world.spots.size();
            case 1: return orNone(world.measure);
            case 2: return orNone(world.root());
            case 3: return world.spots.values().stream().mapToInt(s -> s.level).filter(l -> l < 10).max().orElse(-1);
            case 4: return seenRows.size();
            case 5: return past.size();
            case 6: return (int) x;
            default: return -1;
        }
    }

    public int letter(int point, int k) {
        if (spot(point) == null || k < 0 || k > 5) {
            return -1;
        }
        String name = spot(point).name;
        return name == null || k >= name.length() ? 0 : name.charAt(k) - 96;
    }

    public int named() {
        StringBuilder b = new StringBuilder();
        takeTape().forEach(o -> b.append((char) (int) o));
        for (Map.Entry<Integer, Spot> e : world.spots.entrySet()) {
            if (b.toString().equals(e.getValue().name)) {
                return e.getKey();
            }
        }
        return -1;
    }

    public int point(int point, int what) {
        Spot s = spot(point);
        if (s == null || what < 0 || what > 6) {
            return -1;
        }
        return what < 3 ? s.at[what] : what == 3 ? s.level : what == 4 ? orNone(s.parent)
                : what == 5 ? world.children(point).size() : world.below(point).size();
    }

    public int at(int x, int y, int z) {
        return orNone(world.on(new int[] {x, y, z}));
    }

    private static int kth(List<Integer> list, int k) {
        return k >= 0 && k < list.size() ? list.get(k) : -1;
    }

    public int child(int point, int k) {
        return spot(point) == null ? -1 : kth(world.children(point), k);
    }

    public int far(int one, int other) {
        return spot(one) == null || spot(other) == null ? -1 : world.far(one, other);
    }

    public int net(int level, int k) {
        if (level < 0 || level > 10) {
            return -1;
        }
        return k == -1 ? world.net(level).size() : kth(world.net(level), k);
    }

    public int above(int point, int level) {
        return spot(point) == null || level < 0 || level > 10 ? -1 : world.above(point, level);
    }

    public int loose(int level, int what) {
        if (level < 0 || level > 10) {
            return -1;
        }
        List<Integer> net = world.net(level);
        switch (what) {
            case 0: return world.pairs().stream().filter(p -> net.contains(p[0]) && net.contains(p[1]))
                    .mapToInt(p -> p[2]).min().orElse(-1);
            case 1: return world.spots.keySet().stream().mapToInt(n -> world.far(n, world.above(n, level)))
                    .max().orElse(-1);
            case 2:
                List<Integer> lower = world.net(level == 0 ? 0 : level - 1);
                return net.stream().mapToInt(n -> (int) lower.stream()
                        .filter(m -> world.far(n, m) < Math.pow(2, level + 1)).count()).max().orElse(-1);
            default: return -1;
        }
    }

    public int most(int what) {
        int which = -1;
        int most = -1;
        for (int n : world.spots.keySet()) {
            if (world.children(n).size() > most) {
                most = world.children(n).size();
                which = n;
            }
        }
        return what == 0 ? most : what == 1 ? which : -1;
    }

    /** Answers nearest (or farthest), its FAR, how many were looked at; rows get those pruned. */
    private int[] search(int[] at, boolean isLong, List<int[]> rows) {
        TreeSet<Integer> going = new TreeSet<>();
        TreeSet<Integer> looked = new TreeSet<>();
        going.add(world.root());
        looked.add(world.root());
        int best = -1;
        for (int k = 10; k >= 1; k--) {
            for (int g : new ArrayList<>(going)) {
                for (int c : world.children(g)) {
                    if (spot(c).level == k - 1) {
                        looked.add(c);
                        going.add(c);
                    }
                }
            }
            best = -1;
            for (int n : looked) {
                int d = best < 0 ? 0 : world.far(spot(n).at, at) - world.far(spot(best).at, at);
                if (best < 0 || (isLong ? d > 0 : d < 0)) {
                    best = n;
                }
            }
            int bestFar = world.far(spot(best).at, at);
            for (int g : new ArrayList<>(going)) {
                int f = world.far(spot(g).at, at);
                int two = (int) Math.pow(2, k);
                if (isLong ? f + two <= bestFar : f - two >= bestFar) {
                    going.remove(g);
                    int low = k - 1;
                    if (world.children(g).stream().anyMatch(c -> spot(c).level < low)) {
                        rows.add(new int[] {g, k, f, world.spared(g, k).size()});
                    }
                }
            }
        }
        return new int[] {best, world.far(spot(best).at, at), looked.size()};
    }

    public int seek(int x, int y, int z) {
        if (!isPlace(x, y, z) || world.spots.isEmpty()) {
            return -1;
        }
        prunedNow = new ArrayList<>();
        int[] f = search(new int[] {x, y, z}, false, prunedNow);
        foundNow = new int[] {f[1], f[2], prunedNow.size(), prunedNow.stream().mapToInt(r -> r[3]).sum()};
        return f[0];
    }

    public int found(int what) {
        return foundNow == null || what < 0 || what > 3 ? -1 : foundNow[what];
    }

    public int pruned(int k, int what) {
        return k < 0 || k >= prunedNow.size() || what < 0 || what > 3 ? -1 : prunedNow.get(k)[what];
    }

    public int proves(int x, int y, int z, int d) {
        List<Integer> t = takeTape();
        if (!isPlace(x, y, z) || d < 0 || d > 999 || t.size() % 2 != 0 || t.size() > 80) {
            return -1;
        }
        int[] at = {x, y, z};
        Set<Integer> spared = new HashSet<>();
        for (int i = 0; i < t.size(); i += 2) {
            Spot s = spot(t.get(i));
            int k = t.get(i + 1);
            if (s == null || k < 1 || k > 10 || world.far(s.at, at) - Math.pow(2, k) < d) {
                return -1;
            }
            spared.addAll(world.spared(t.get(i), k));
        }
        for (Map.Entry<Integer, Spot> e : world.spots.entrySet()) {
            if (!spared.contains(e.getKey()) && world.far(e.getValue().at, at) < d) {
                return -1;
            }
        }
        return spared.size();
    }

    public int nth(int x, int y, int z, int k) {
        if (!isPlace(x, y, z)) {
            return -1;
        }
        List<Integer> all = new ArrayList<>(world.spots.keySet());
        all.sort(Comparator.comparingInt(n -> world.far(spot(n).at, new int[] {x, y, z})));
        return kth(all, k);
    }

    public int within(int x, int y, int z, int d) {
        if (!isPlace(x, y, z) || d < 0 || d > 999) {
            return -1;
        }
        return (int) world.spots.values().stream().filter(s -> world.far(s.at, new int[] {x, y, z}) <= d).count();
    }

    public int remote(int x, int y, int z, int what) {
        if (!isPlace(x, y, z) || world.spots.isEmpty() || what < 0 || what > 2) {
            return -1;
        }
        return search(new int[] {x, y, z}, true, new ArrayList<>())[what];
    }

    private int centerNow(int point, int n) {
        return world.nearest(world.thinned().subList(0, n), spot(point).at);
    }

    public int centers(int n, int what) {
        if (n < 1 || n > world.spots.size()) {
            return -1;
        }
        Map<Integer, Integer> sizes = new HashMap<>();
        int most = -1;
        int first = -1;
        for (int p : world.spots.keySet()) {
            int c = centerNow(p, n);
            sizes.merge(c, 1, Integer::sum);
            if (world.far(p, c) > most) {
                most = world.far(p, c);
                first = p;
            }
        }
        return what == 0 ? most : what == 1 ? first
                : what == 2 ? sizes.values().stream().max(Integer::compare).get() : -1;
    }

    public int center(int point, int n) {
        return spot(point) == null || n < 1 || n > world.spots.size() ? -1 : centerNow(point, n);
    }

    public int pair(int what) {
        if (world.spots.size() < 2 || what < 0 || what > 5) {
            return -1;
        }
        List<int[]> pairs = world.pairs();
        pairs.sort(Comparator.comparingInt(p -> what < 3 ? p[2] : -p[2]));
        return pairs.get(0)[what % 3];
    }

    public int thin(int k) {
        return kth(world.thinned(), k);
    }

    public int link(int k, int what) {
        List<int[]> links = world.links();
        if (k == -1) {
            return links.stream().mapToInt(l -> l[2]).sum();
        }
        return k < 0 || k >= links.size() || what < 0 || what > 2 ? -1 : links.get(k)[what];
    }

    public int group(int point, int length) {
        return spot(point) == null || length < 0 || length > 999 ? -1 : world.groups(length).get(point);
    }

    public int groups(int length) {
        return length < 0 || length > 999 ? -1 : new HashSet<>(world.groups(length).values()).size();
    }

    private boolean canCome(World w, int x, int y, int z) {
        return w.measure != null && isPlace(x, y, z) && w.spots.size() < 40 && w.on(new int[] {x, y, z}) == null;
    }

    public int comes(int x, int y, int z, int what) {
        return !canCome(world, x, y, z) || what < 0 || what > 1 ? -1 : world.wouldCome(new int[] {x, y, z})[what];
    }

    private static int unlikeLevels(World a, World b) {
        return (int) b.spots.keySet().stream().filter(n -> a.spots.get(n).level != b.spots.get(n).level).count();
    }

    private static int unlikeParents(World a, World b) {
        return (int) b.spots.keySet().stream()
                .filter(n -> orNone(a.spots.get(n).parent) != orNone(b.spots.get(n).parent)).count();
    }

    public int goes(int point, int what) {
        if (spot(point) == null) {
            return -1;
        }
        World w = world.copy();
        w.go(point);
        return what == 0 ? unlikeParents(world, w) : what == 1 ? unlikeLevels(world, w)
                : what == 2 ? orNone(w.root()) : -1;
    }

    public int anew(int what) {
        World w = world.copy();
        w.anew();
        return what == 0 ? unlikeLevels(world, w) : what == 1 ? unlikeParents(world, w) : -1;
    }

    public int see() {
        List<Integer> t = takeTape();
        List<int[]> rows = new ArrayList<>();
        if (t.isEmpty() || t.size() % 4 != 0 || t.size() > 48) {
            return no(1);
        }
        for (int i = 0; i < t.size(); i += 4) {
            if (spot(t.get(i)) == null || spot(t.get(i + 1)) == null || t.get(i).equals(t.get(i + 1))) {
                return no(1);
            }
            rows.add(new int[] {t.get(i), t.get(i + 1), 256 * t.get(i + 2) + t.get(i + 3)});
        }
        seenRows.clear();
        seenRows.addAll(rows);
        return rows.size();
    }

    private List<Integer> fitsNow() {
        List<Integer> fits = new ArrayList<>();
        for (int m = 0; m < 3; m++) {
            int measure = m;
            if (seenRows.stream().allMatch(r -> spot(r[0]) == null || spot(r[1]) == null
                    || farBy(measure, spot(r[0]).at, spot(r[1]).at) == r[2])) {
                fits.add(m);
            }
        }
        return fits;
    }

    public int fits(int k) {
        return world.measure == null ? -1 : k == -1 ? fitsNow().size() : kth(fitsNow(), k);
    }

    public int tells(int what) {
        List<Integer> fits = fitsNow();
        if (fits.isEmpty() || world.spots.size() < 2 || what < 0 || what > 2) {
            return -1;
        }
        int[] best = null;
        for (int[] pair : world.pairs()) {
            Map<Integer, Integer> left = new HashMap<>();
            for (int m : fits) {
                left.merge(farBy(m, spot(pair[0]).at, spot(pair[1]).at), 1, Integer::sum);
            }
            int most = left.values().stream().max(Integer::compare).get();
            if (best == null || most < best[2]) {
                best = new int[] {pair[0], pair[1], most};
            }
        }
        return best[what];
    }

    public int add(int x, int y, int z) {
        if (!canCome(world, x, y, z)) {
            return no(2);
        }
        act();
        int n = world.free();
        world.come(n, new int[] {x, y, z}, null);
        return n;
    }

    public boolean drop(int point) {
        if (spot(point) == null) {
            no(2);
            return false;
        }
        act();
        world.go(point);
        return true;
    }

    public boolean move(int point, int x, int y, int z) {
        if (spot(point) == null || !isPlace(x, y, z) || world.on(new int[] {x, y, z}) != null) {
            no(2);
            return false;
        }
        act();
        String name = spot(point).name;
        world.go(point);
        world.come(point, new int[] {x, y, z}, name);
        return true;
    }

    public boolean by(int measure) {
        if (world.measure == null || measure < 0 || measure > 2 || measure == world.measure) {
            no(3);
            return false;
        }
        act();
        world.measure = measure;
        world.anew();
        return true;
    }

    public int lay() {
        if (world.spots.isEmpty()) {
            return no(3);
        }
        act();
        World old = world.copy();
        world.anew();
        return unlikeLevels(old, world);
    }

    private int draw(int m) {
        x = java.math.BigInteger.valueOf(1103515245).multiply(java.math.BigInteger.valueOf(x))
                .add(java.math.BigInteger.valueOf(12345)).mod(java.math.BigInteger.TWO.pow(31)).longValue();
        return (int) (x / 64 % m);
    }

    public int chance(int n) {
        if (n < 1 || n > 40 || world.measure == null) {
            return no(3);
        }
        act();
        for (int i = 0; i < n; i++) {
            if (draw(3) == 2) {
                int k = draw(world.spots.isEmpty() ? 1 : world.spots.size());
                if (!world.spots.isEmpty()) {
                    world.go(new ArrayList<>(world.spots.keySet()).get(k));
                }
            } else {
                int[] at = {draw(256), draw(256), draw(256)};
                if (canCome(world, at[0], at[1], at[2])) {
                    world.come(world.free(), at, null);
                }
            }
        }
        return world.spots.size();
    }

    public boolean undo() {
        if (past.isEmpty()) {
            no(4);
            return false;
        }
        world = past.remove(past.size() - 1);
        return true;
    }

    public boolean seed(int seed) {
        if (seed < 0) {
            no(5);
            return false;
        }
        x = seed;
        return true;
    }

    private static int check(List<Integer> bytes) {
        int c = 149;
        for (int o : bytes) {
            c = (3 * c + o) % 251;
        }
        return c;
    }

    public int image() {
        if (world.measure == null) {
            return -1;
        }
        imageNow = new ArrayList<>(List.of(world.measure, world.spots.size()));
        world.spots.forEach((n, s) -> imageNow.addAll(
                List.of(n, s.at[0], s.at[1], s.at[2], s.level, s.parent == null ? 255 : s.parent)));
        imageNow.add(check(imageNow));
        return imageNow.size();
    }

    public int octet(int k) {
        return kth(imageNow, k);
    }

    private static World told(List<Integer> t) {
        if (t.size() < 3 || t.get(0) > 2 || t.get(1) > 40 || t.size() != 3 + 6 * t.get(1)
                || check(t.subList(0, t.size() - 1)) != t.get(t.size() - 1)) {
            return null;
        }
        World w = new World();
        w.measure = t.get(0);
        int last = -1;
        for (int i = 2; i + 1 < t.size(); i += 6) {
            int[] at = {t.get(i + 1), t.get(i + 2), t.get(i + 3)};
            if (t.get(i) <= last || t.get(i) > 39 || w.on(at) != null || t.get(i + 4) > 10) {
                return null;
            }
            last = t.get(i);
            Spot s = new Spot(at[0], at[1], at[2]);
            s.level = t.get(i + 4);
            s.parent = t.get(i + 5) == 255 ? null : t.get(i + 5);
            w.spots.put(last, s);
        }
        return isSound(w) ? w : null;
    }

    private static boolean isSound(World w) {
        if (!w.spots.isEmpty() && w.net(10).size() != 1) {
            return false;
        }
        for (Spot s : w.spots.values()) {
            if (s.level == 10 ? s.parent != null : s.parent == null || !w.net(s.level + 1).contains(s.parent)
                    || w.far(s.at, w.spots.get(s.parent).at) >= Math.pow(2, s.level + 1)) {
                return false;
            }
        }
        for (int k = 0; k <= 10; k++) {
            for (int p : w.net(k)) {
                for (int q : w.net(k)) {
                    if (p != q && w.far(p, q) < Math.pow(2, k)) {
                        return false;
                    }
                }
            }
        }
        return true;
    }

    public boolean on() {
        World w = told(takeTape());
        if (world.measure == null || w == null) {
            no(5);
            return false;
        }
        world = w;
        past.clear();
        return true;
    }

    public int status(int what) {
        return what < 0 || what > 5 ? -1 : refused[what];
    }
}
