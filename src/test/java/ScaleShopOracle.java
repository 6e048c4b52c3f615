import java.math.BigInteger;
import java.util.ArrayList;
import java.util.Arrays;
import java.util.List;
import java.util.Random;

/**
 * Random runs of calls, each answer compared with that of a slow second reading of the document, which shares
 * neither code nor ways of reckoning with the class: it keeps whole copies of the sheet for undo, looks at every
 * pair without any shortcut, and reckons distances with fractions of any size. A run has at most some 500 calls that
 * act; what only tells is asked besides, more often than the document allows, since it changes nothing.
 */
public final class ScaleShopOracle {
    private static final int RUNS = 3000;
    private static int wrong = 0;
    private static final long[] ANSWERS_BY_STATUS = new long[9];
    private static final long[] STEPS_BY_KIND = new long[11];

    public static void main(String[] args) {
        int runs = args.length > 0 ? Integer.parseInt(args[0]) : RUNS;
        long seed = args.length > 1 ? Long.parseLong(args[1]) : 20261116L;
        for (int run = 0; run < runs && wrong == 0; run++) {
            new Session(seed + run).play(500);
        }
        System.out.println("answers by status: " + Arrays.toString(ANSWERS_BY_STATUS));
        System.out.println("steps by which: " + Arrays.toString(STEPS_BY_KIND));
        for (int which = 1; which <= 10; which++) {
            if (runs >= RUNS && STEPS_BY_KIND[which] < 100) {
                System.out.println("step " + which + " was hardly seen");
                wrong++;
            }
        }
        for (int why = 0; why <= 8; why++) {
            if (runs >= RUNS && ANSWERS_BY_STATUS[why] < 100) {
                System.out.println("status " + why + " was hardly seen");
                wrong++;
            }
        }
        if (wrong != 0) {
            System.exit(1);
        }
    }

    /** One run: the same calls to the class and to the second reading. */
    private static final class Session {
        private final Random random;
        private final ScaleShop shop = new ScaleShop();
        private final Naive naive = new Naive();
        private final StringBuilder calls = new StringBuilder();
        private final long seed;
        private final int grid;
        /** Places where roads and lines like to end. */
        private final int[][] crossroads = new int[4][];
        /** The kind that most features of this run have; 7: none. */
        private final int favourite;
        private int used = 0;
        private int steps = 0;

        Session(long seed) {
            this.seed = seed;
            this.random = new Random(seed);
            int[] grids = {5, 8, 12, 20, 40, 1000};
            this.grid = grids[random.nextInt(grids.length)];
            this.favourite = random.nextInt(4) == 0 ? 3 : random.nextInt(8);
            for (int i = 0; i < crossroads.length; i++) {
                crossroads[i] = new int[] {random.nextInt(grid + 1), random.nextInt(grid + 1)};
            }
        }

        void play(int most) {
            int features = 2 + random.nextInt(9);
            for (int i = 0; i < features; i++) {
                build();
            }
            while (used < most && wrong == 0) {
                if (random.nextInt(40) == 0) {
                    build();
                } else {
                    act();
                }
                if (random.nextInt(6) == 0) {
                    lookRound();
                }
            }
        }

        private int coordinate() {
            return random.nextInt(60) == 0 ? random.nextInt(1004) - 2 : random.nextInt(grid + 1);
        }

        private int number() {
            int total = naive.count(0);
            return random.nextInt(25) == 0 ? random.nextInt(total + 3) - 1 : random.nextInt(Math.max(1, total));
        }

        /** A number, most often of a feature of the kind that is wanted. */
        private int numberOf(int kind) {
            int number = number();
            for (int tries = 0; tries < 12 && (naive.told(number, 0) != kind || naive.told(number, 5) != 1); tries++) {
                number = number();
            }
            return number;
        }

        private void build() {
            int kind = random.nextInt(30) == 0 ? random.nextInt(9) - 1 : random.nextInt(7);
            if (favourite < 7 && random.nextInt(3) != 0) {
                kind = favourite;
            }
            int rank = random.nextInt(40) == 0 ? random.nextInt(12) - 1 : random.nextInt(4);
            int width = random.nextInt(40) == 0 ? random.nextInt(104) - 1 : random.nextInt(12);
            int town = random.nextInt(40) == 0 ? random.nextInt(12) - 1 : random.nextInt(2);
            int number = (int) call("feature", kind, rank, width, town);
            if (number < 0) {
                return;
            }
            int[][] places = shape(kind);
            for (int[] place : places) {
                call("corner", number, place[0], place[1]);
            }
            if (random.nextInt(15) != 0) {
                call("done", number);
            }
        }

        private int[][] shape(int kind) {
            int style = random.nextInt(4);
            if (kind == 0) {
                return new int[][] {{coordinate(), coordinate()}};
            }
            if (kind == 6 && style != 0) {
                return house();
            }
            if (kind >= 5 && style != 0) {
                return star(3 + random.nextInt(random.nextInt(4) == 0 ? 9 : 4));
            }
            if (kind <= 4 && (kind == 3 ? style != 0 : style == 1)) {
                return between();
            }
            if (style >= 2) {
                return stairs(2 + random.nextInt(random.nextInt(5) == 0 ? 12 : 5));
            }
            int[][] places = new int[1 + random.nextInt(6)][];
            for (int i = 0; i < places.length; i++) {
                places[i] = new int[] {coordinate(), coordinate()};
            }
            return places;
        }

        private int[][] between() {
            int[][] places = new int[2 + random.nextInt(3)][];
            for (int i = 0; i < places.length; i++) {
                boolean end = i == 0 || i == places.length - 1;
                places[i] = end ? crossroads[random.nextInt(crossroads.length)] : new int[] {coordinate(), coordinate()};
            }
            return places;
        }

        private int[][] house() {
            int x = coordinate();
            int y = coordinate();
            int a = 1 + random.nextInt(4);
            int b = 1 + random.nextInt(4);
            switch (random.nextInt(4)) {
                case 0:
                    return new int[][] {{x, y}, {x + a, y + b}, {x + a - b, y + b + a}, {x - b, y + a}};
                case 1:
                    return new int[][] {{x, y}, {x + 2 * a, y}, {x + 2 * a, y + b}, {x + a, y + b},
                        {x + a, y + 2 * b}, {x, y + 2 * b}};
                case 2:
                    return new int[][] {{x, y}, {x, y + b}, {x + a, y + b}, {x + a, y}};
                default:
                    return new int[][] {{x + a, y}, {x + a, y + b}, {x, y + b}, {x, y}};
            }
        }

        private int[][] star(int corners) {
            int mx = random.nextInt(grid + 1);
            int my = random.nextInt(grid + 1);
            double reach = 1.5 + random.nextInt(Math.max(2, grid / 2));
            double turn = random.nextDouble() * 6;
            int way = random.nextBoolean() ? 1 : -1;
            int[][] places = new int[corners][];
            for (int i = 0; i < corners; i++) {
                double angle = turn + way * 2 * Math.PI * (i + random.nextDouble() * 0.7) / corners;
                double far = reach * (0.4 + 0.6 * random.nextDouble());
                places[i] = new int[] {clip(mx + far * Math.cos(angle)), clip(my + far * Math.sin(angle))};
            }
            return places;
        }

        private int[][] stairs(int corners) {
            int[][] places = new int[corners][];
            int x = coordinate();
            int y = coordinate();
            boolean flat = random.nextBoolean();
            for (int i = 0; i < corners; i++) {
                places[i] = new int[] {clip(x), clip(y)};
                int ahead = random.nextInt(Math.max(2, grid / 4) + 1);
                int beside = random.nextInt(5) - 2;
                x += flat ? ahead : beside;
                y += flat ? beside : ahead;
            }
            return places;
        }

        private int clip(double value) {
            return (int) Math.max(0, Math.min(1000, Math.round(value)));
        }

        private int limit() {
            int[] limits = {-1, 0, 1, 2, 3, 5, 8, 13, 30, 100, 1000, 2000000};
            return limits[random.nextInt(limits.length)];
        }

        private int small() {
            int[] sizes = {1, 2, 3, 6, grid / 4 + 1};
            int size = sizes[random.nextInt(sizes.length)];
            return random.nextInt(50) == 0 ? random.nextInt(420) - 210 : random.nextInt(2 * size + 1) - size;
        }

        private void act() {
            switch (random.nextInt(22)) {
                case 0: call("plainer", number(), limit()); break;
                case 1: call("plainer", number(), limit()); break;
                case 2: call("smooth", number()); break;
                case 3: call("smooth", number()); break;
                case 4: case 5: case 6: case 7: case 8:
                    shiftSomething(); break;
                case 9: call("grow", number()); break;
                case 10: call("grow", numberOf(6)); break;
                case 11: call("square", numberOf(5), random.nextInt(3) == 0 ? limit() : 1000000); break;
                case 12: call("join", number(), number(), joinGap()); break;
                case 13: call("join", numberOf(6), numberOf(6), joinGap()); break;
                case 14: rarely(12, "drop", number()); break;
                case 15: rarely(6, "few", limit(), random.nextInt(12) == 0 ? random.nextInt(204) - 2 : random.nextInt(4)); break;
                case 16: rarely(4, "choose"); break;
                case 17: rarely(3, "run", limit()); break;
                case 18: call("undo"); break;
                case 19: call(random.nextBoolean() ? "undo" : "redo"); break;
                case 20: call("redo"); break;
                default: odd();
            }
        }

        private int joinGap() {
            return random.nextInt(15) == 0 ? random.nextInt(1004) - 2 : random.nextInt(grid + 1);
        }

        private void rarely(int once, String name, int... with) {
            if (random.nextInt(once) == 0) {
                call(name, with);
            }
        }

        private void shiftSomething() {
            int feature = number();
            int corners = Math.max(1, naive.told(feature, 4));
            int k = random.nextInt(20) == 0 ? random.nextInt(corners + 3) - 1 : random.nextInt(corners);
            int n = random.nextInt(30) == 0 ? random.nextInt(24) - 1 : random.nextInt(4);
            call("shift", feature, k, small(), small(), n);
        }

        private void odd() {
            switch (random.nextInt(4)) {
                case 0: call("corner", number(), coordinate(), coordinate()); break;
                case 1: call("done", number()); break;
                case 2: rarely(8, "tear", number()); break;
                default:
                    if (random.nextInt(6) == 0) {
                        call("feature", random.nextInt(7), 0, 0, 0);
                    }
            }
        }

        private void lookRound() {
            int f = number();
            int g = number();
            int x = coordinate();
            int y = coordinate();
            call("meets", f, g);
            call("inside", x, y, f);
            call("side", x, y, f, random.nextInt(5) - 1);
            call("near", f, g, random.nextInt(20) == 0 ? random.nextInt(4) - 1 : 0);
            call("near", f, g, 1);
            int gap = random.nextInt(10) == 0 ? random.nextInt(204) - 2 : random.nextInt(5);
            call("clashes", gap);
            call("clash", gap, random.nextInt(4) - 1, random.nextInt(4) - 1);
            call("far", f, 0);
            call("far", f, 1);
            call("size", f);
            call("at", f, random.nextInt(6) - 1, random.nextInt(4) - 1);
            call("told", f, random.nextInt(13) - 1);
            call("told", g, random.nextInt(4) + 7);
            call("step", random.nextInt(naive.count(5) + naive.count(6) + 3) - 1, random.nextInt(6) - 1);
            call("count", random.nextInt(10) - 1);
        }

        private long call(String name, int... a) {
            if (wrong != 0) {
                return -1;
            }
            used++;
            long got = ofShop(name, a);
            long due = ofNaive(name, a);
            calls.append(name).append(Arrays.toString(a)).append(" -> ").append(got).append('\n');
            ANSWERS_BY_STATUS[naive.status()]++;
            if (naive.count(5) > steps) {
                STEPS_BY_KIND[naive.step(naive.count(5), 0)]++;
            }
            steps = naive.count(5);
            String sheet = sheetOfShop();
            if (got != due || shop.status() != naive.status() || !sheet.equals(sheetOfNaive())) {
                wrong++;
                System.out.println("seed " + seed + ":\n" + calls + "due is " + due + " with status " + naive.status()
                    + ", not " + shop.status() + "\nsheet:     " + sheet + "\nsheet due: " + sheetOfNaive());
            }
            return got;
        }

        private String sheetOfShop() {
            StringBuilder text = new StringBuilder();
            for (int i = 0; i < shop.count(0); i++) {
                for (int what = 0; what <= 10; what++) {
                    text.append(shop.told(i, what)).append(' ');
                }
                for (int k = 0; k < shop.told(i, 4); k++) {
                    text.append(shop.at(i, k, 0)).append(',').append(shop.at(i, k, 1)).append(' ');
                }
                text.append("| ");
            }
            for (int what = 0; what <= 7; what++) {
                text.append(shop.count(what)).append(' ');
            }
            return text.toString();
        }

        private String sheetOfNaive() {
            StringBuilder text = new StringBuilder();
            for (int i = 0; i < naive.count(0); i++) {
                for (int what = 0; what <= 10; what++) {
                    text.append(naive.told(i, what)).append(' ');
                }
                for (int k = 0; k < naive.told(i, 4); k++) {
                    text.append(naive.at(i, k, 0)).append(',').append(naive.at(i, k, 1)).append(' ');
                }
                text.append("| ");
            }
            for (int what = 0; what <= 7; what++) {
                text.append(naive.count(what)).append(' ');
            }
            return text.toString();
        }

        private static long bit(boolean b) {
            return b ? 1 : 0;
        }

        private long ofShop(String name, int[] a) {
            switch (name) {
                case "feature": return shop.feature(a[0], a[1], a[2], a[3]);
                case "corner": return shop.corner(a[0], a[1], a[2]);
                case "tear": return bit(shop.tear(a[0]));
                case "done": return bit(shop.done(a[0]));
                case "plainer": return shop.plainer(a[0], a[1]);
                case "smooth": return bit(shop.smooth(a[0]));
                case "shift": return bit(shop.shift(a[0], a[1], a[2], a[3], a[4]));
                case "grow": return bit(shop.grow(a[0]));
                case "square": return bit(shop.square(a[0], a[1]));
                case "join": return shop.join(a[0], a[1], a[2]);
                case "drop": return bit(shop.drop(a[0]));
                case "few": return shop.few(a[0], a[1]);
                case "choose": return shop.choose();
                case "run": return shop.run(a[0]);
                case "undo": return shop.undo();
                case "redo": return shop.redo();
                case "meets": return bit(shop.meets(a[0], a[1]));
                case "inside": return shop.inside(a[0], a[1], a[2]);
                case "side": return shop.side(a[0], a[1], a[2], a[3]);
                case "near": return shop.near(a[0], a[1], a[2]);
                case "clashes": return shop.clashes(a[0]);
                case "clash": return shop.clash(a[0], a[1], a[2]);
                case "far": return shop.far(a[0], a[1]);
                case "size": return shop.size(a[0]);
                case "at": return shop.at(a[0], a[1], a[2]);
                case "told": return shop.told(a[0], a[1]);
                case "step": return shop.step(a[0], a[1]);
                default: return shop.count(a[0]);
            }
        }

        private long ofNaive(String name, int[] a) {
            switch (name) {
                case "feature": return naive.feature(a[0], a[1], a[2], a[3]);
                case "corner": return naive.corner(a[0], a[1], a[2]);
                case "tear": return bit(naive.tear(a[0]));
                case "done": return bit(naive.done(a[0]));
                case "plainer": return naive.plainer(a[0], a[1]);
                case "smooth": return bit(naive.smooth(a[0]));
                case "shift": return bit(naive.shift(a[0], a[1], a[2], a[3], a[4]));
                case "grow": return bit(naive.grow(a[0]));
                case "square": return bit(naive.square(a[0], a[1]));
                case "join": return naive.join(a[0], a[1], a[2]);
                case "drop": return bit(naive.drop(a[0]));
                case "few": return naive.few(a[0], a[1]);
                case "choose": return naive.choose();
                case "run": return naive.run(a[0]);
                case "undo": return naive.undo();
                case "redo": return naive.redo();
                case "meets": return bit(naive.meets(a[0], a[1]));
                case "inside": return naive.inside(a[0], a[1], a[2]);
                case "side": return naive.side(a[0], a[1], a[2], a[3]);
                case "near": return naive.near(a[0], a[1], a[2]);
                case "clashes": return naive.clashes(a[0]);
                case "clash": return naive.clash(a[0], a[1], a[2]);
                case "far": return naive.far(a[0], a[1]);
                case "size": return naive.size(a[0]);
                case "at": return naive.at(a[0], a[1], a[2]);
                case "told": return naive.told(a[0], a[1]);
                case "step": return naive.step(a[0], a[1]);
                default: return naive.count(a[0]);
            }
        }
    }

    record Place(long x, long y) {
    }

    /** A fraction without bounds, never below 0. */
    record Ratio(BigInteger over, BigInteger under) {
        static Ratio of(long over, long under) {
            return new Ratio(BigInteger.valueOf(over), BigInteger.valueOf(under));
        }

        int against(Ratio other) {
            return over.multiply(other.under).compareTo(other.over.multiply(under));
        }

        long told(int what) {
            BigInteger both = over.gcd(under);
            return (what == 0 ? over : under).divide(both).longValueExact();
        }
    }

    /** One feature; a copy of it shares nothing that changes. */
    private static final class Thing {
        int kind;
        int rank;
        int width;
        int town;
        int state = 0;
        boolean torn = false;
        List<Place> places = new ArrayList<>();
        List<Place> lost = new ArrayList<>();
        int goneBy = 0;
        int partA = -1;
        int partB = -1;
        int joinedTo = -1;

        Thing copy() {
            Thing t = new Thing();
            t.kind = kind;
            t.rank = rank;
            t.width = width;
            t.town = town;
            t.state = state;
            t.torn = torn;
            t.places = new ArrayList<>(places);
            t.lost = new ArrayList<>(lost);
            t.goneBy = goneBy;
            t.partA = partA;
            t.partB = partB;
            t.joinedTo = joinedTo;
            return t;
        }

        boolean ring() {
            return kind >= 5;
        }

        boolean line() {
            return kind >= 1 && kind <= 4;
        }

        boolean seen() {
            return state == 1 && !torn;
        }
    }

    /** The second reading of the document. */
    private static final class Naive {
        private List<Thing> things = new ArrayList<>();
        private final List<int[]> told = new ArrayList<>();
        private final List<List<Thing>> before = new ArrayList<>();
        private final List<List<Thing>> after = new ArrayList<>();
        private List<Thing> kept;
        private int made = 0;
        private int fence = 0;
        private int status = 0;
        private int sevens = 0;

        private static List<Thing> copy(List<Thing> from) {
            List<Thing> to = new ArrayList<>();
            for (Thing t : from) {
                to.add(t.copy());
            }
            return to;
        }

        private int no(int why) {
            status = why;
            sevens += why == 7 ? 1 : 0;
            return -1;
        }

        private boolean never(int why) {
            no(why);
            return false;
        }

        private Thing get(int number) {
            return number < 0 || number >= things.size() ? null : things.get(number);
        }

        private void fence() {
            forget();
            fence = made;
            status = 0;
        }

        private void forget() {
            while (told.size() > made) {
                told.remove(made);
                before.remove(made);
                after.remove(made);
            }
        }

        private void begin() {
            kept = copy(things);
        }

        private void end(int which, int first, int amount) {
            forget();
            told.add(new int[] {which, first, amount});
            before.add(kept);
            after.add(copy(things));
            made++;
            status = 0;
        }

        int feature(int kind, int rank, int width, int town) {
            if (kind < 0 || kind > 6 || rank < 0 || rank > 9 || width < 0 || width > 100 || town < 0 || town > 9) {
                return no(4);
            }
            if (things.size() == 200) {
                return no(8);
            }
            Thing t = new Thing();
            t.kind = kind;
            t.rank = rank;
            t.width = width;
            t.town = town;
            things.add(t);
            fence();
            return things.size() - 1;
        }

        private static boolean place(long x, long y) {
            return x >= 0 && y >= 0 && x <= 1000 && y <= 1000;
        }

        int corner(int number, int x, int y) {
            Thing t = get(number);
            if (t == null) return no(1);
            if (t.state != 0) return no(2);
            if (!place(x, y)) return no(4);
            if (t.torn) return no(5);
            if (t.places.size() == (t.kind == 0 ? 1 : 40)) return no(6);
            t.places.add(new Place(x, y));
            status = 0;
            return t.places.size();
        }

        boolean tear(int number) {
            Thing t = get(number);
            if (t == null) return never(1);
            if (t.state == 2) return never(2);
            if (t.torn) return never(5);
            t.torn = true;
            t.places.clear();
            fence();
            return true;
        }

        boolean done(int number) {
            Thing t = get(number);
            if (t == null) return never(1);
            if (t.state != 0) return never(2);
            if (t.torn) return never(5);
            int fewest = t.kind == 0 ? 1 : t.kind < 5 ? 2 : 3;
            if (t.places.size() < fewest || !simple(t.kind, t.places)) return never(6);
            t.state = 1;
            fence();
            return true;
        }

        private boolean clear(Thing t, int k) {
            for (Thing other : things) {
                if (other == t || !other.seen()) {
                    continue;
                }
                for (Place[] e : parts(other.kind, other.places)) {
                    if (on(e[0], e[1], t.places.get(k))) {
                        return false;
                    }
                }
            }
            return true;
        }

        private boolean takeOne(Thing t, int limit) {
            List<Place> row = t.places;
            int n = row.size();
            if (t.ring() && n == 3) {
                return false;
            }
            long bestArea = Long.MAX_VALUE;
            int best = -1;
            for (int k = 0; k < n; k++) {
                if (t.line() && (k == 0 || k == n - 1)) {
                    continue;
                }
                long area = Math.abs(cross(row.get((k + n - 1) % n), row.get(k), row.get((k + 1) % n)));
                if (area > limit || area >= bestArea || !clear(t, k)) {
                    continue;
                }
                List<Place> without = new ArrayList<>(row);
                without.remove(k);
                if (lawful(t, t.kind, without, k, true)) {
                    best = k;
                    bestArea = area;
                }
            }
            if (best < 0) {
                return false;
            }
            t.lost.add(t.places.remove(best));
            return true;
        }

        private int takeAll(Thing t, int limit) {
            int went = 0;
            while (takeOne(t, limit)) {
                went++;
            }
            return went;
        }

        int plainer(int number, int limit) {
            Thing t = get(number);
            if (t == null) return no(1);
            if (t.state != 1) return no(2);
            if (t.kind == 0 || t.kind == 6) return no(3);
            if (limit < 0) return no(4);
            if (t.torn) return no(5);
            begin();
            int went = takeAll(t, limit);
            if (went == 0) return no(8);
            end(1, number, went);
            return went;
        }

        private boolean change(Thing t, int number, List<Place> to, int which) {
            if (!lawful(t, t.kind, to, -1, true)) return never(7);
            if (to.equals(t.places)) return never(8);
            begin();
            t.places = to;
            end(which, number, 0);
            return true;
        }

        boolean smooth(int number) {
            Thing t = get(number);
            if (t == null) return never(1);
            if (t.state != 1) return never(2);
            if (t.kind == 0 || t.kind == 6) return never(3);
            if (t.torn) return never(5);
            List<Place> to = new ArrayList<>();
            int n = t.places.size();
            for (int i = 0; i < n; i++) {
                Place p = t.places.get(i);
                if (t.line() && (i == 0 || i == n - 1)) {
                    to.add(p);
                    continue;
                }
                Place a = t.places.get((i + n - 1) % n);
                Place c = t.places.get((i + 1) % n);
                to.add(new Place(Math.floorDiv(a.x + p.x + p.x + c.x, 4), Math.floorDiv(a.y + p.y + p.y + c.y, 4)));
            }
            return change(t, number, to, 2);
        }

        boolean shift(int number, int k, int dx, int dy, int n) {
            Thing t = get(number);
            if (t == null || k < 0 || !t.torn && k >= t.places.size()) return never(1);
            if (t.state != 1) return never(2);
            if (dx < -200 || dx > 200 || dy < -200 || dy > 200 || n < 0 || n > 20) return never(4);
            if (t.torn) return never(5);
            int m = t.places.size();
            long[] moveX = new long[m];
            long[] moveY = new long[m];
            for (int i = 0; i < m; i++) {
                if (t.kind == 0 || t.kind == 6) {
                    moveX[i] = dx;
                    moveY[i] = dy;
                }
            }
            if (t.kind >= 1 && t.kind <= 5) {
                // The farther ones first, so that the nearer way round is what stands at last.
                for (int j = n; j >= 0; j--) {
                    for (int sign = -1; sign <= 1; sign += 2) {
                        int i = k + sign * j;
                        if (t.ring() && j < m) {
                            i = Math.floorMod(i, m);
                        }
                        if (i >= 0 && i < m) {
                            moveX[i] = (long) dx * (n + 1 - j) / (n + 1);
                            moveY[i] = (long) dy * (n + 1 - j) / (n + 1);
                        }
                    }
                }
            }
            if (t.line()) {
                moveX[0] = moveY[0] = moveX[m - 1] = moveY[m - 1] = 0;
            }
            List<Place> to = new ArrayList<>();
            for (int i = 0; i < m; i++) {
                to.add(new Place(t.places.get(i).x + moveX[i], t.places.get(i).y + moveY[i]));
            }
            return change(t, number, to, 3);
        }

        boolean grow(int number) {
            Thing t = get(number);
            if (t == null) return never(1);
            if (t.state != 1) return never(2);
            if (t.kind != 6) return never(3);
            if (t.torn) return never(5);
            Place o = t.places.get(0);
            List<Place> to = new ArrayList<>();
            for (Place p : t.places) {
                to.add(new Place(o.x + 2 * (p.x - o.x), o.y + 2 * (p.y - o.y)));
            }
            return change(t, number, to, 4);
        }

        private static List<Place> box(List<Place> row) {
            long x0 = row.stream().mapToLong(Place::x).min().getAsLong();
            long x1 = row.stream().mapToLong(Place::x).max().getAsLong();
            long y0 = row.stream().mapToLong(Place::y).min().getAsLong();
            long y1 = row.stream().mapToLong(Place::y).max().getAsLong();
            return new ArrayList<>(List.of(new Place(x0, y0), new Place(x1, y0), new Place(x1, y1), new Place(x0, y1)));
        }

        private static long area2(List<Place> row) {
            long sum = 0;
            for (int i = 1; i + 1 < row.size(); i++) {
                sum += cross(row.get(0), row.get(i), row.get(i + 1));
            }
            return Math.abs(sum);
        }

        boolean square(int number, int most) {
            Thing t = get(number);
            if (t == null) return never(1);
            if (t.state != 1) return never(2);
            if (t.kind != 5) return never(3);
            if (most < 0) return never(4);
            if (t.torn) return never(5);
            List<Place> to = box(t.places);
            if (Math.abs(area2(to) - area2(t.places)) > most) return never(4);
            if (!lawful(t, 6, to, -1, false)) return never(7);
            begin();
            t.places = to;
            t.kind = 6;
            end(5, number, 0);
            return true;
        }

        int join(int first, int second, int gap) {
            Thing a = get(first);
            Thing b = get(second);
            if (a == null || b == null) return no(1);
            if (a.state != 1 || b.state != 1) return no(2);
            if (a.kind != 6 || b.kind != 6) return no(3);
            if (gap < 0 || gap > 1000) return no(4);
            if (a.torn || b.torn) return no(5);
            if (distance(a, b).against(Ratio.of((long) gap * gap, 1)) > 0) return no(4);
            List<Place> all = new ArrayList<>(a.places);
            all.addAll(b.places);
            Thing c = new Thing();
            c.kind = 6;
            c.rank = a.rank;
            c.width = a.width;
            c.town = a.town;
            c.state = 1;
            c.places = box(all);
            c.partA = first;
            c.partB = second;
            for (Thing other : things) {
                if (other != a && other != b && other.seen()
                    && (meet(c, other) || where(c.places, other.places.get(0)) == 1)) {
                    return no(7);
                }
            }
            if (a == b || things.size() == 200) return no(8);
            begin();
            things.add(c);
            a.state = b.state = 2;
            a.goneBy = b.goneBy = made + 1;
            a.joinedTo = b.joinedTo = things.size() - 1;
            end(6, first, 2);
            return things.size() - 1;
        }

        boolean drop(int number) {
            Thing t = get(number);
            if (t == null) return never(1);
            if (t.state != 1) return never(2);
            if (t.torn) return never(5);
            begin();
            t.state = 2;
            t.goneBy = made + 1;
            end(7, number, 1);
            return true;
        }

        int few(int least, int many) {
            if (least < 0 || many < 0 || many > 200) return no(4);
            begin();
            int went = 0;
            for (int town = 0; town <= 9; town++) {
                List<Thing> houses = new ArrayList<>();
                for (Thing t : things) {
                    if (t.kind == 6 && t.seen() && t.town == town) {
                        houses.add(t);
                    }
                }
                houses.sort((p, q) -> Long.compare(area2(q.places), area2(p.places)));
                for (int i = many; i < houses.size(); i++) {
                    if (area2(houses.get(i).places) < least) {
                        houses.get(i).state = 2;
                        houses.get(i).goneBy = made + 1;
                        went++;
                    }
                }
            }
            if (went == 0) return no(8);
            end(8, -1, went);
            return went;
        }

        private static long length(List<Place> row) {
            long sum = 0;
            for (int i = 1; i < row.size(); i++) {
                sum += Math.abs(row.get(i).x - row.get(i - 1).x) + Math.abs(row.get(i).y - row.get(i - 1).y);
            }
            return sum;
        }

        private static Place top(java.util.Map<Place, Place> up, Place p) {
            Place q = p;
            while (up.containsKey(q)) {
                q = up.get(q);
            }
            return q;
        }

        int choose() {
            begin();
            List<Thing> roads = new ArrayList<>();
            for (Thing t : things) {
                if (t.kind == 3 && t.seen()) {
                    roads.add(t);
                }
            }
            roads.sort((p, q) -> Long.compare((p.rank + 1) * length(p.places), (q.rank + 1) * length(q.places)));
            java.util.Map<Place, Place> up = new java.util.HashMap<>();
            int went = 0;
            for (Thing t : roads) {
                Place a = top(up, t.places.get(0));
                Place b = top(up, t.places.get(t.places.size() - 1));
                if (a.equals(b)) {
                    t.state = 2;
                    t.goneBy = made + 1;
                    went++;
                } else {
                    up.put(a, b);
                }
            }
            if (went == 0) return no(8);
            end(9, -1, went);
            return went;
        }

        int run(int limit) {
            if (limit < 0) return no(4);
            begin();
            int total = 0;
            boolean again = true;
            while (again) {
                again = false;
                for (Thing t : things) {
                    if (t.seen() && t.kind >= 1 && t.kind <= 5) {
                        int went = takeAll(t, limit);
                        total += went;
                        again |= went > 0;
                    }
                }
            }
            if (total == 0) return no(8);
            end(10, -1, total);
            return total;
        }

        /** Features that are open keep what was told of them meanwhile. */
        private void restore(List<Thing> from) {
            List<Thing> to = copy(from);
            for (int i = 0; i < to.size() && i < things.size(); i++) {
                if (to.get(i).state == 0) {
                    to.set(i, things.get(i));
                }
            }
            things = to;
        }

        int undo() {
            if (made <= fence) return no(8);
            made--;
            restore(before.get(made));
            status = 0;
            return made + 1;
        }

        int redo() {
            if (made >= told.size()) return no(8);
            restore(after.get(made));
            made++;
            status = 0;
            return made;
        }

        boolean meets(int first, int second) {
            Thing a = get(first);
            Thing b = get(second);
            return a != null && b != null && a.seen() && b.seen() && meet(a, b);
        }

        int inside(int x, int y, int number) {
            Thing t = get(number);
            if (t == null || !t.seen() || !t.ring() || !place(x, y)) return -1;
            return where(t.places, new Place(x, y));
        }

        int side(int x, int y, int number, int k) {
            Thing t = get(number);
            if (t == null || t.torn || t.kind == 0 || t.places.isEmpty() || !place(x, y)) return 0;
            List<Place[]> edges = parts(t.kind, t.places);
            if (k < 0 || k >= edges.size()) return 0;
            return Long.signum(cross(edges.get(k)[0], edges.get(k)[1], new Place(x, y)));
        }

        long near(int first, int second, int what) {
            Thing a = get(first);
            Thing b = get(second);
            if (a == null || b == null || !a.seen() || !b.seen() || what < 0 || what > 1) return -1;
            return distance(a, b).told(what);
        }

        private List<int[]> pairs(int gap) {
            List<int[]> found = new ArrayList<>();
            for (int i = 0; i < things.size(); i++) {
                for (int j = i + 1; j < things.size(); j++) {
                    Thing a = things.get(i);
                    Thing b = things.get(j);
                    if (!a.seen() || !b.seen() || meet(a, b)) {
                        continue;
                    }
                    long twice = a.width + b.width + 2L * gap;
                    if (distance(a, b).against(Ratio.of(twice * twice, 4)) < 0) {
                        found.add(new int[] {i, j});
                    }
                }
            }
            return found;
        }

        int clashes(int gap) {
            return gap < 0 || gap > 200 ? -1 : pairs(gap).size();
        }

        int clash(int gap, int i, int what) {
            if (gap < 0 || gap > 200 || what < 0 || what > 1) return -1;
            List<int[]> found = pairs(gap);
            return i < 0 || i >= found.size() ? -1 : found.get(i)[what];
        }

        long far(int number, int what) {
            Thing t = get(number);
            if (t == null || !t.seen() || what < 0 || what > 1) return -1;
            Ratio most = Ratio.of(0, 1);
            for (Place p : t.lost) {
                Ratio least = null;
                for (Place[] e : parts(t.kind, t.places)) {
                    Ratio r = away(p, e[0], e[1]);
                    least = least == null || r.against(least) < 0 ? r : least;
                }
                most = least != null && least.against(most) > 0 ? least : most;
            }
            return most.told(what);
        }

        long size(int number) {
            Thing t = get(number);
            if (t == null || !t.seen()) return -1;
            return t.ring() ? area2(t.places) : length(t.places);
        }

        int at(int number, int k, int what) {
            Thing t = get(number);
            if (t == null || t.torn || k < 0 || k >= t.places.size() || what < 0 || what > 1) return -1;
            return (int) (what == 0 ? t.places.get(k).x : t.places.get(k).y);
        }

        int told(int number, int what) {
            Thing t = get(number);
            if (t == null || what < 0 || what > 10) return -1;
            return new int[] {t.kind, t.rank, t.width, t.town, t.places.size(), t.state, t.torn ? 1 : 0, t.goneBy,
                t.partA, t.partB, t.joinedTo}[what];
        }

        int step(int i, int what) {
            if (i < 1 || i > told.size() || what < 0 || what > 3) return -1;
            return what == 3 ? (i <= made ? 1 : 0) : told.get(i - 1)[what];
        }

        int count(int what) {
            int there = 0;
            int gone = 0;
            int torn = 0;
            int corners = 0;
            for (Thing t : things) {
                there += t.state == 1 ? 1 : 0;
                gone += t.state == 2 ? 1 : 0;
                torn += t.torn ? 1 : 0;
                corners += t.seen() ? t.places.size() : 0;
            }
            if (what < 0 || what > 7) return -1;
            return new int[] {things.size(), there, gone, torn, corners, made, told.size() - made, sevens}[what];
        }

        int status() {
            return status;
        }

        private static long cross(Place a, Place b, Place c) {
            return (b.x - a.x) * (c.y - a.y) - (b.y - a.y) * (c.x - a.x);
        }

        private static long dot(Place a, Place b, Place c) {
            return (b.x - a.x) * (c.x - a.x) + (b.y - a.y) * (c.y - a.y);
        }

        private static List<Place[]> parts(int kind, List<Place> row) {
            List<Place[]> all = new ArrayList<>();
            if (kind == 0) {
                all.add(new Place[] {row.get(0), row.get(0)});
                return all;
            }
            for (int i = 0; i + 1 < row.size(); i++) {
                all.add(new Place[] {row.get(i), row.get(i + 1)});
            }
            if (kind >= 5) {
                all.add(new Place[] {row.get(row.size() - 1), row.get(0)});
            }
            return all;
        }

        /** On a part: as far from both its ends together as these are from one another. */
        private static boolean on(Place a, Place b, Place p) {
            return cross(a, b, p) == 0 && dot(p, a, b) <= 0 && (!a.equals(b) || p.equals(a));
        }

        private static boolean partsMeet(Place[] e, Place[] f) {
            if (on(e[0], e[1], f[0]) || on(e[0], e[1], f[1]) || on(f[0], f[1], e[0]) || on(f[0], f[1], e[1])) {
                return true;
            }
            return Long.signum(cross(e[0], e[1], f[0])) * Long.signum(cross(e[0], e[1], f[1])) < 0
                && Long.signum(cross(f[0], f[1], e[0])) * Long.signum(cross(f[0], f[1], e[1])) < 0;
        }

        private static boolean meetRows(int kind, List<Place> row, int otherKind, List<Place> other) {
            for (Place[] e : parts(kind, row)) {
                for (Place[] f : parts(otherKind, other)) {
                    if (partsMeet(e, f)) {
                        return true;
                    }
                }
            }
            return false;
        }

        private static boolean meet(Thing a, Thing b) {
            return meetRows(a.kind, a.places, b.kind, b.places);
        }

        /** By turns around the place, quarter by quarter, and not by a ray: simple rings turn once or never. */
        private static int where(List<Place> ring, Place p) {
            for (Place[] e : parts(5, ring)) {
                if (on(e[0], e[1], p)) {
                    return 2;
                }
            }
            double turned = 0;
            for (Place[] e : parts(5, ring)) {
                turned += Math.atan2(cross(p, e[0], e[1]), dot(p, e[0], e[1]));
            }
            return Math.abs(turned) > Math.PI ? 1 : 0;
        }

        private static boolean simple(int kind, List<Place> row) {
            if (kind == 0) {
                return true;
            }
            List<Place[]> edges = parts(kind, row);
            int m = edges.size();
            for (Place[] e : edges) {
                if (e[0].equals(e[1])) {
                    return false;
                }
            }
            for (int i = 0; i < m; i++) {
                for (int j = 0; j < m; j++) {
                    if (i == j) {
                        continue;
                    }
                    Place[] e = edges.get(i);
                    Place[] f = edges.get(j);
                    boolean behind = j == i + 1 || kind >= 5 && i == m - 1 && j == 0;
                    boolean ahead = i == j + 1 || kind >= 5 && j == m - 1 && i == 0;
                    if (behind) {
                        // e ends where f begins: no far end may lie on the other edge.
                        if (on(e[0], e[1], f[1]) || on(f[0], f[1], e[0])) {
                            return false;
                        }
                        if (kind == 6 && dot(e[1], e[0], f[1]) != 0) {
                            return false;
                        }
                    } else if (!ahead && partsMeet(e, f)) {
                        return false;
                    }
                }
            }
            return true;
        }

        private static Ratio away(Place p, Place a, Place b) {
            long whole = dot(a, b, b);
            long along = dot(a, b, p);
            if (whole == 0 || along <= 0) {
                return Ratio.of(dot(p, a, a), 1);
            }
            if (along >= whole) {
                return Ratio.of(dot(p, b, b), 1);
            }
            // By Pythagoras: the square of the way to a, less the square of what lies along the edge.
            BigInteger w = BigInteger.valueOf(whole);
            BigInteger over = BigInteger.valueOf(dot(p, a, a)).multiply(w).subtract(BigInteger.valueOf(along).pow(2));
            return new Ratio(over, w);
        }

        private static Ratio distance(Thing a, Thing b) {
            if (meet(a, b)) {
                return Ratio.of(0, 1);
            }
            Ratio least = null;
            for (Place[] e : parts(a.kind, a.places)) {
                for (Place[] f : parts(b.kind, b.places)) {
                    Ratio[] four = {away(e[0], f[0], f[1]), away(e[1], f[0], f[1]), away(f[0], e[0], e[1]),
                        away(f[1], e[0], e[1])};
                    for (Ratio r : four) {
                        least = least == null || r.against(least) < 0 ? r : least;
                    }
                }
            }
            return least;
        }

        /** In a triangle, with its edges; of one without area, on the longest edge. */
        private static boolean inTriangle(Place a, Place b, Place c, Place q) {
            if (cross(a, b, c) == 0) {
                long ab = dot(a, b, b);
                long bc = dot(b, c, c);
                long ca = dot(c, a, a);
                if (ab >= bc && ab >= ca) {
                    return on(a, b, q);
                }
                return bc >= ca ? on(b, c, q) : on(c, a, q);
            }
            int s = Long.signum(cross(a, b, c));
            return s * cross(a, b, q) >= 0 && s * cross(b, c, q) >= 0 && s * cross(c, a, q) >= 0;
        }

        private static boolean swept(List<Place> old, List<Place> to, int kind, int gone, Place q) {
            int n = old.size();
            if (gone >= 0) {
                Place a = old.get((gone + n - 1) % n);
                Place c = old.get((gone + 1) % n);
                return !q.equals(a) && !q.equals(c) && inTriangle(a, old.get(gone), c, q);
            }
            int edges = kind >= 5 ? n : n - 1;
            for (int i = 0; i < edges; i++) {
                int j = (i + 1) % n;
                Place a = old.get(i);
                Place b = old.get(j);
                Place a2 = to.get(i);
                Place b2 = to.get(j);
                if (a.equals(a2) && b.equals(b2)) {
                    continue;
                }
                if (a.equals(a2) && q.equals(a) || b.equals(b2) && q.equals(b)) {
                    continue;
                }
                if (inTriangle(a, b, b2, q) || inTriangle(a, a2, b2, q)) {
                    return true;
                }
            }
            return false;
        }

        /** Whether a way has a point of a part other than its beginning. */
        private static boolean crossed(Place from, Place to, Place[] e) {
            if (from.equals(to)) {
                return false;
            }
            if (!partsMeet(new Place[] {from, to}, e)) {
                return false;
            }
            // The point in common, if it is one only, is the beginning if that is on the part and the lines differ.
            boolean oneLine = cross(from, to, e[0]) == 0 && cross(from, to, e[1]) == 0;
            if (!oneLine) {
                return !on(e[0], e[1], from);
            }
            return dot(from, to, e[0]) > 0 || dot(from, to, e[1]) > 0;
        }

        private boolean lawful(Thing t, int kind, List<Place> to, int gone, boolean sweeps) {
            for (Place p : to) {
                if (!place(p.x, p.y)) {
                    return false;
                }
            }
            if (!simple(kind, to)) {
                return false;
            }
            for (Thing other : things) {
                if (other == t || !other.seen()) {
                    continue;
                }
                if (meet(t, other) != meetRows(kind, to, other.kind, other.places)) {
                    return false;
                }
                for (Place q : other.places) {
                    if (kind >= 5 && (where(t.places, q) == 1) != (where(to, q) == 1)) {
                        return false;
                    }
                    if (sweeps && kind != 0 && swept(t.places, to, kind, gone, q)) {
                        return false;
                    }
                }
                if (other.ring()) {
                    boolean was = where(other.places, t.places.get(0)) == 1;
                    if (was != (where(other.places, to.get(0)) == 1)) {
                        return false;
                    }
                }
                if (kind == 0) {
                    for (Place[] e : parts(other.kind, other.places)) {
                        if (crossed(t.places.get(0), to.get(0), e)) {
                            return false;
                        }
                    }
                }
            }
            return true;
        }
    }
}
