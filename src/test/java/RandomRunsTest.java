import java.util.ArrayList;
import java.util.HashMap;
import java.util.List;
import java.util.Map;
import java.util.Random;

/**
 * Random runs of calls, each answer held against a second, plain writing of the document: panels in
 * lists, every way looked at one by one, nothing left out.
 */
public final class RandomRunsTest {
    private static final int RUNS = 400;
    private static final int CALLS = 300;

    public static void main(String[] args) {
        int wrong = 0;
        Map<String, Integer> answered = new HashMap<>();
        for (int run = 0; run < RUNS && wrong < 20; run++) {
            Random random = new Random(run);
            Player player = new Player(random);
            for (int i = 0; i < CALLS; i++) {
                String row = player.playOne();
                if (player.got != player.want) {
                    wrong++;
                    System.out.println("run " + run + " call " + i + ": " + row + " answered " + player.got
                            + ", due is " + player.want);
                    break;
                }
                if (player.want >= 0 && player.want < 4000000000000000000L) {
                    answered.merge(row.substring(0, row.indexOf('(')), 1, Integer::sum);
                }
            }
        }
        if (answered.size() != 32) {
            wrong++;
            System.out.println("only these calls were answered without a refusal: " + answered);
        }
        System.out.println(wrong == 0 ? "all answers are as due" : wrong + " answers are not as due");
        if (wrong != 0) {
            System.exit(1);
        }
    }

    /** One way in which the paper lies: stacks (lowest first) by place, and all folds that can follow. */
    static final class Node {
        final Map<List<Integer>, List<Integer>> stacks = new HashMap<>();
        final boolean[] down = new boolean[8];
        final int[] side = new int[10];
        final List<Integer> fresh = new ArrayList<>();
        final Map<Integer, Node> next = new HashMap<>();
        int wide;
        int high;

        static Node flat() {
            Node node = new Node();
            for (int p = 0; p < 8; p++) {
                node.stacks.put(List.of(p % 4, p / 4), new ArrayList<>(List.of(p)));
            }
            node.measure();
            return node;
        }

        void measure() {
            for (List<Integer> place : stacks.keySet()) {
                wide = Math.max(wide, place.get(0) + 1);
                high = Math.max(high, place.get(1) + 1);
            }
        }

        boolean hasLine(int line) {
            return line == 4 ? high == 2 : line >= 1 && line < wide;
        }

        boolean canFold(int code) {
            return hasLine(code / 10) && code % 10 < 4;
        }

        List<Integer> placeOf(int panel) {
            for (Map.Entry<List<Integer>, List<Integer>> entry : stacks.entrySet()) {
                if (entry.getValue().contains(panel)) {
                    return entry.getKey();
                }
            }
            throw new IllegalStateException();
        }

        List<Integer> stackOf(int panel) {
            return stacks.get(placeOf(panel));
        }

        boolean isTop(int panel) {
            List<Integer> stack = stackOf(panel);
            return stack.get(stack.size() - 1) == panel;
        }

        boolean isLowest(int panel) {
            return stackOf(panel).get(0) == panel;
        }

        boolean read(int panel) {
            return isTop(panel) && !down[panel] || isLowest(panel) && down[panel];
        }

        boolean out(int panel) {
            return isTop(panel) && down[panel] || isLowest(panel) && !down[panel];
        }

        int readBits() {
            int bits = 0;
            for (int p = 0; p < 8; p++) {
                bits |= read(p) ? 1 << p : 0;
            }
            return bits;
        }

        Node after(int code) {
            return next.computeIfAbsent(code, c -> folded(c / 10, c % 10));
        }

        private Node folded(int line, int way) {
            int axis = line == 4 ? 1 : 0;
            int cut = line == 4 ? 1 : line;
            boolean oneGoes = way == 0 || way == 1;
            boolean over = way == 0 || way == 2;
            Node node = new Node();
            System.arraycopy(down, 0, node.down, 0, 8);
            System.arraycopy(side, 0, node.side, 0, 10);
            Map<List<Integer>, List<Integer>> raw = new HashMap<>();
            stacks.forEach((place, stack) -> {
                if (place.get(axis) < cut != oneGoes) {
                    raw.put(place, new ArrayList<>(stack));
                }
            });
            stacks.forEach((place, stack) -> {
                if (place.get(axis) < cut == oneGoes) {
                    int k = oneGoes ? cut - 1 - place.get(axis) : place.get(axis) - cut;
                    int there = oneGoes ? cut + k : cut - 1 - k;
                    List<Integer> target = axis == 0 ? List.of(there, place.get(1)) : List.of(place.get(0), there);
                    List<Integer> turned = new ArrayList<>();
                    for (int i = stack.size() - 1; i >= 0; i--) {
                        turned.add(stack.get(i));
                        node.down[stack.get(i)] = !down[stack.get(i)];
                    }
                    List<Integer> old = raw.getOrDefault(target, new ArrayList<>());
                    List<Integer> both = new ArrayList<>(over ? old : turned);
                    both.addAll(over ? turned : old);
                    raw.put(target, both);
                }
            });
            int leastX = raw.keySet().stream().mapToInt(place -> place.get(0)).min().getAsInt();
            int leastY = raw.keySet().stream().mapToInt(place -> place.get(1)).min().getAsInt();
            raw.forEach((place, stack) -> node.stacks.put(List.of(place.get(0) - leastX, place.get(1) - leastY), stack));
            node.measure();
            for (int crease = 0; crease < 10; crease++) {
                int a = crease < 6 ? crease / 3 * 4 + crease % 3 : crease - 6;
                int b = crease < 6 ? a + 1 : a + 4;
                if (side[crease] == 0 && faces(placeOf(a), placeOf(b), axis, cut)) {
                    node.fresh.add(crease);
                    boolean valley = over ? !down[a] : down[a];
                    node.side[crease] = valley ? 2 : 1;
                }
            }
            return node;
        }

        private static boolean faces(List<Integer> a, List<Integer> b, int axis, int cut) {
            boolean beside = a.get(1 - axis).equals(b.get(1 - axis));
            boolean straight = a.get(axis) == cut - 1 && b.get(axis) == cut;
            boolean backward = b.get(axis) == cut - 1 && a.get(axis) == cut;
            return beside && (straight || backward);
        }
    }

    record Way(Node node, int folds, int effort, int number) {
    }

    /** The document, written plainly. */
    static final class Model {
        static final Node FLAT = Node.flat();

        int[] kind = new int[10];
        int[] figure = new int[10];
        int[] worn = new int[10];
        List<Node> nodes = new ArrayList<>(List.of(FLAT));
        int cover;
        Model image;
        List<Integer> row = new ArrayList<>();
        StringBuilder letters = new StringBuilder();
        int[] refusals = new int[7];

        int no(int refusal) {
            refusals[-refusal]++;
            return refusal;
        }

        Model copy() {
            Model model = new Model();
            model.kind = kind.clone();
            model.figure = figure.clone();
            model.worn = worn.clone();
            model.nodes = new ArrayList<>(nodes);
            model.cover = cover;
            return model;
        }

        void take(Model other) {
            kind = other.kind.clone();
            figure = other.figure.clone();
            worn = other.worn.clone();
            nodes = new ArrayList<>(other.nodes);
            cover = other.cover;
        }

        Node here() {
            return nodes.get(nodes.size() - 1);
        }

        static int effort(int kind, int figure, int worn, boolean mountain) {
            switch (kind) {
                case 0: return 3;
                case 1: return mountain ? 3 : 3 + figure;
                case 2: return mountain ? 3 + figure : 3;
                case 3: return effort(1, figure, worn, worn >= 10 ? !mountain : mountain);
                case 4: return 7;
                default: return effort(2, figure, worn, mountain) / 2;
            }
        }

        static int wear(int kind, int worn, boolean mountain) {
            switch (kind) {
                case 0: return 1;
                case 1: return mountain ? 1 : 2;
                case 2: return mountain ? 2 : 1;
                case 3: return wear(1, worn, worn >= 10 ? !mountain : mountain);
                case 4: return 0;
                default: return wear(2, worn, mountain) + 1;
            }
        }

        int effortOf(Node after) {
            int sum = 0;
            for (int c : after.fresh) {
                sum += effort(kind[c], figure[c], worn[c], after.side[c] == 1);
            }
            return sum;
        }

        int makeFold(int code) {
            Node after = here().after(code);
            int sum = effortOf(after);
            for (int c : after.fresh) {
                worn[c] = Math.min(99, worn[c] + wear(kind[c], worn[c], after.side[c] == 1));
            }
            nodes.add(after);
            return sum;
        }

        List<Way> allWays() {
            List<Way> ways = new ArrayList<>();
            gather(ways, new Way(here(), 0, 0, 0));
            return ways;
        }

        void gather(List<Way> ways, Way way) {
            ways.add(way);
            for (int code = 10; code <= 43; code++) {
                if (way.node().canFold(code)) {
                    Node after = way.node().after(code);
                    gather(ways, new Way(after, way.folds() + 1, way.effort() + effortOf(after), way.number() * 100 + code));
                }
            }
        }

        static Way best(List<Way> ways) {
            Way best = null;
            for (Way way : ways) {
                if (best == null || way.effort() < best.effort()
                        || way.effort() == best.effort() && way.number() < best.number()) {
                    best = way;
                }
            }
            return best;
        }

        static boolean isShut(Node node) {
            return node.wide == 1 && node.high == 1;
        }

        List<Way> shutting() {
            List<Way> ways = allWays();
            ways.removeIf(way -> !isShut(way.node()) || !way.node().out(cover));
            return ways;
        }

        int letter(int c) {
            if (c < 0) return no(-4);
            if (c > 255 || letters.length() == 96) return no(-6);
            return letters.append((char) c).length();
        }

        int map() {
            String text = letters.toString();
            letters.setLength(0);
            String statement = "k[0-9][cmvsto][0-9];|w[0-9][0-9][0-9];|f[0-9][0-9];|o;|c[0-9];";
            if (!text.matches("(" + statement + ")+")) {
                java.util.regex.Matcher matcher = java.util.regex.Pattern.compile("(" + statement + ")+").matcher("");
                // The first place where no letter at all, nor any that follow, can make a map of the start.
                for (int n = 1; n <= text.length(); n++) {
                    matcher.reset(text.substring(0, n));
                    if (!matcher.matches() && !matcher.hitEnd()) return -1000 - (n - 1);
                }
                return -1000 - text.length();
            }
            Model trial = copy();
            int place = 0;
            int made = 0;
            for (String part : text.split("(?<=;)")) {
                if (!trial.statement(part)) return -2000 - place;
                place += part.length();
                made++;
            }
            take(trial);
            return made;
        }

        boolean statement(String part) {
            int a = part.length() > 2 ? part.charAt(1) - '0' : 0;
            switch (part.charAt(0)) {
                case 'k':
                    kind[a] = "cmvsto".indexOf(part.charAt(2));
                    figure[a] = part.charAt(3) - '0';
                    return true;
                case 'w':
                    worn[a] = Integer.parseInt(part.substring(2, 4));
                    return true;
                case 'f':
                    int code = Integer.parseInt(part.substring(1, 3));
                    if (!here().canFold(code)) return false;
                    makeFold(code);
                    return true;
                case 'o':
                    if (nodes.size() == 1) return false;
                    nodes.remove(nodes.size() - 1);
                    return true;
                default:
                    cover = a;
                    return a < 8;
            }
        }

        int crease(int c, int what) {
            if (c < 0 || c > 9) return no(-1);
            if (what < 0 || what > 5) return no(-2);
            int[] all = {kind[c], figure[c], worn[c], here().side[c],
                effort(kind[c], figure[c], worn[c], true), effort(kind[c], figure[c], worn[c], false)};
            return all[what];
        }

        int panel(int p, int what) {
            if (p < 0 || p > 7) return no(-1);
            if (what < 0 || what > 5) return no(-2);
            List<Integer> stack = here().stackOf(p);
            int[] all = {here().placeOf(p).get(0), here().placeOf(p).get(1), stack.indexOf(p), here().down[p] ? 1 : 0,
                here().read(p) ? 1 : 0, stack.size() - 1 - stack.indexOf(p)};
            return all[what];
        }

        int fold(int line, int way) {
            if (!here().hasLine(line)) return no(-1);
            if (way < 0 || way > 3) return no(-2);
            return makeFold(10 * line + way);
        }

        int opens() {
            if (nodes.size() == 1) return no(-3);
            nodes.remove(nodes.size() - 1);
            return nodes.size() - 1;
        }

        int wears(int c, int v) {
            if (c < 0 || c > 9) return no(-1);
            if (v < 0) return no(-4);
            if (v > 99) return no(-6);
            int old = worn[c];
            worn[c] = v;
            return old;
        }

        int turn(int c, int newKind, int newFigure) {
            if (c < 0 || c > 9) return no(-1);
            if (newKind < 0 || newKind > 5) return no(-2);
            if (newFigure < 0) return no(-4);
            if (newFigure > 9) return no(-6);
            int old = 10 * kind[c] + figure[c];
            kind[c] = newKind;
            figure[c] = newFigure;
            return old;
        }

        int cover(int p) {
            if (p < 0 || p > 7) return no(-1);
            int old = cover;
            cover = p;
            return old;
        }

        int hurts(int line, int way, int what) {
            if (!here().hasLine(line)) return no(-1);
            if (way < 0 || way > 3 || what < 0 || what > 2) return no(-2);
            Model trial = copy();
            int sum = trial.makeFold(10 * line + way);
            if (what == 0) return sum;
            if (what == 1) return trial.here().fresh.stream().mapToInt(c -> 1 << c).sum();
            return trial.wornOfAll() - wornOfAll();
        }

        int wornOfAll() {
            return java.util.Arrays.stream(worn).sum();
        }

        int over(int a, int b) {
            if (a < 0 || a > 7 || b < 0 || b > 7 || a == b) return no(-1);
            List<Integer> stack = here().stackOf(a);
            return stack.contains(b) && stack.indexOf(a) > stack.indexOf(b) ? 1 : 0;
        }

        int thick() {
            return here().stacks.values().stream().mapToInt(List::size).max().getAsInt();
        }

        int flatBits() {
            int bits = 0;
            for (int c = 0; c < 10; c++) bits |= here().side[c] == 0 ? 1 << c : 0;
            return bits;
        }

        int wad(int what) {
            if (what < 0 || what > 6) return no(-2);
            int[] all = {here().wide, here().high, thick(), here().readBits(), here().out(cover) ? 1 : 0,
                nodes.size() - 1, flatBits()};
            return all[what];
        }

        int shut(int what) {
            if (what < 0 || what > 2) return no(-2);
            List<Way> ways = shutting();
            if (ways.isEmpty()) return -9;
            if (what == 2) return ways.stream().mapToInt(Way::folds).min().getAsInt();
            return what == 0 ? best(ways).number() : best(ways).effort();
        }

        int ways(int n) {
            if (n < 0) return no(-4);
            if (n > 4) return no(-6);
            return (int) shutting().stream().filter(way -> way.folds() == n).count();
        }

        int up(int a, int b, int m, int what) {
            if (a < 0 || a > 7 || b < 0 || b > 7 || a == b) return no(-1);
            if (m < 1) return no(-4);
            if (m > 8) return no(-6);
            if (what < 0 || what > 1) return no(-2);
            List<Way> ways = allWays();
            ways.removeIf(way -> way.node().wide * way.node().high > m || !way.node().read(a) || !way.node().read(b));
            if (ways.isEmpty()) return -9;
            return what == 0 ? best(ways).number() : best(ways).effort();
        }

        int most(int set, int m, int what) {
            if (set < 0 || m < 1) return no(-4);
            if (set > 255 || m > 8) return no(-6);
            if (what < 0 || what > 1) return no(-2);
            int most = -9;
            int number = -9;
            for (Way way : allWays()) {
                int read = Integer.bitCount(way.node().readBits() & set);
                boolean small = way.node().wide * way.node().high <= m;
                if (small && (read > most || read == most && way.number() < number)) {
                    most = read;
                    number = way.number();
                }
            }
            return what == 0 ? most : number;
        }

        int layers() {
            List<Integer> upward = new ArrayList<>(row);
            java.util.Collections.reverse(upward);
            List<Way> ways = allWays();
            ways.removeIf(way -> !isShut(way.node()) || !way.node().stackOf(0).equals(upward));
            return ways.isEmpty() ? -9 : best(ways).number();
        }

        int holes() {
            int holes = 0;
            for (int k = 0; k < 3; k++) holes += together(k) >= 40 ? 1 : 0;
            return holes;
        }

        int together(int k) {
            return worn[k] + worn[3 + k] + worn[6 + k] + worn[7 + k];
        }

        int lastsOf(int code) {
            Model trial = copy();
            for (int times = 1; times <= 98; times++) {
                trial.makeFold(code);
                trial.opens();
                if (trial.holes() > holes()) return times;
            }
            return 99;
        }

        int lasts(int line, int way) {
            if (!here().hasLine(line)) return no(-1);
            if (way < 0 || way > 3) return no(-2);
            return lastsOf(10 * line + way);
        }

        int tape(int line, int way) {
            if (!here().hasLine(line)) return no(-1);
            if (way < 0 || way > 3) return no(-2);
            int[] lasting = new int[10];
            for (int c = 0; c < 10; c++) {
                Model trial = copy();
                trial.kind[c] = 4;
                lasting[c] = trial.lastsOf(10 * line + way);
            }
            int most = java.util.Arrays.stream(lasting).max().getAsInt();
            if (most <= lastsOf(10 * line + way)) return -9;
            for (int c = 0; c < 10; c++) {
                if (lasting[c] == most) return c;
            }
            return -9;
        }

        int first(int line, int way, int line2, int way2) {
            if (line < 1 || line > 4 || line2 < 1 || line2 > 4) return no(-1);
            if (way < 0 || way > 3 || way2 < 0 || way2 > 3) return no(-2);
            Integer one = both(10 * line + way, 10 * line2 + way2);
            Integer two = both(10 * line2 + way2, 10 * line + way);
            if (one == null && two == null) return -9;
            if (one == null) return 1;
            if (two == null) return 0;
            return one < two ? 0 : two < one ? 1 : -9;
        }

        Integer both(int code, int code2) {
            Model trial = copy();
            if (!trial.here().canFold(code)) return null;
            int sum = trial.makeFold(code);
            if (!trial.here().canFold(code2)) return null;
            return sum + trial.makeFold(code2);
        }

        int hole(int k, int what) {
            if (k < 0 || k > 2) return no(-1);
            if (what < 0 || what > 1) return no(-2);
            return what == 0 ? together(k) : together(k) >= 40 ? 1 : 0;
        }

        int weakest(int what) {
            if (what < 0 || what > 2) return no(-2);
            int most = Math.max(together(0), Math.max(together(1), together(2)));
            if (what == 1) return most;
            int bits = 0;
            for (int k = 0; k < 3; k++) bits |= together(k) >= 40 ? 1 << k : 0;
            return what == 2 ? bits : together(0) == most ? 0 : together(1) == most ? 1 : 2;
        }

        long noLong(int refusal) {
            return 4000000000000000000L - no(refusal);
        }

        static long part(long above, long below, int part) {
            java.math.BigInteger divisor = java.math.BigInteger.valueOf(above).gcd(java.math.BigInteger.valueOf(below));
            return (part == 0 ? above : below) / divisor.longValue();
        }

        int firstBad() {
            Node node = here();
            for (int i = 0; i < row.size(); i++) {
                if (!node.canFold(row.get(i))) return i;
                node = node.after(row.get(i));
            }
            return -9;
        }

        long wind(int t, int part) {
            if (t < 2) return noLong(-4);
            if (t > 20) return noLong(-6);
            if (firstBad() >= 0) return noLong(-3);
            if (part < 0 || part > 1) return noLong(-2);
            return part(chances(here(), 0, t), (long) Math.pow(t, row.size()), part);
        }

        long chances(Node node, int i, int t) {
            if (i == row.size()) return node.out(cover) ? 1 : 0;
            int code = row.get(i);
            int other = code % 10 == 0 ? code + 1 : code % 10 == 1 ? code - 1 : code % 10 == 2 ? code + 1 : code - 1;
            return (t - 1) * chances(node.after(code), i + 1, t) + chances(node.after(other), i + 1, t);
        }

        long mean(int part) {
            if (part < 0 || part > 1) return noLong(-2);
            return part(wornOfAll(), 10, part);
        }

        int whatIs(int c, int what) {
            if (c < 0 || c > 9) return no(-1);
            if (what < 0 || what > 1) return no(-2);
            if (row.size() % 2 == 1) return no(-3);
            int bits = 0;
            for (int i = 0; i < (what == 0 ? 6 : 10); i++) {
                boolean fits = true;
                for (int j = 0; j < row.size(); j += 2) {
                    int due = what == 0 ? effort(i, figure[c], row.get(j), true) : effort(kind[c], i, row.get(j), true);
                    fits &= due == row.get(j + 1);
                }
                bits |= fits ? 1 << i : 0;
            }
            return bits;
        }

        int row(int v) {
            if (v < 0) return no(-4);
            if (v > 99 || row.size() == 16) return no(-6);
            row.add(v);
            return row.size();
        }

        int judge() {
            int bad = firstBad();
            row.clear();
            return bad;
        }

        int clear() {
            int had = row.size();
            row.clear();
            return had;
        }

        int lots(int n, int z, int what) {
            if (n < 1) return no(-4);
            if (n > 20) return no(-6);
            if (what < 0 || what > 1) return no(-2);
            int[] seed = {z};
            int sum = 0;
            int outs = 0;
            for (int i = 0; i < n; i++) {
                Model trial = copy();
                while (!isShut(trial.here())) {
                    List<Integer> lines = new ArrayList<>();
                    for (int line = 1; line <= 4; line++) {
                        if (trial.here().hasLine(line)) lines.add(line);
                    }
                    int line = lines.get(draw(seed, lines.size()));
                    sum += trial.makeFold(10 * line + draw(seed, 4));
                }
                outs += trial.here().out(cover) ? 1 : 0;
            }
            return what == 0 ? sum : outs;
        }

        static int draw(int[] seed, int m) {
            seed[0] = (int) (seed[0] * 1664525L + 1013904223L);
            return (int) ((seed[0] & 0x7fffffffL) >> 8) % m;
        }

        int image() {
            image = copy();
            return nodes.size() - 1;
        }

        int on() {
            if (image == null) return no(-3);
            take(image);
            return nodes.size() - 1;
        }

        int count(int what) {
            switch (what) {
                case 0: return nodes.size() - 1;
                case 1: return wornOfAll();
                case 2: return 1023 - flatBits();
                case 3: return cover;
                case 4: return here().wide * here().high;
                case 5: return thick();
                case 6: return row.size();
                case 7: return letters.length();
                default: return what >= 11 && what <= 16 ? refusals[what - 10] : -9;
            }
        }
    }

    /** Plays the same calls on both. */
    static final class Player {
        final Random random;
        final SmallerInTheShop x = new SmallerInTheShop();
        final Model y = new Model();
        final List<Integer> planned = new ArrayList<>();
        final List<Integer> spelt = new ArrayList<>();
        long got;
        long want;

        Player(Random random) {
            this.random = random;
        }

        /** Mostly from least to greatest, sometimes beside it. */
        int pick(int least, int greatest) {
            int dice = random.nextInt(40);
            if (dice == 0) return least - 1 - random.nextInt(3);
            if (dice == 1) return greatest + 1 + random.nextInt(3);
            if (dice == 2) return random.nextInt();
            return least + random.nextInt(greatest - least + 1);
        }

        String playOne() {
            if (!spelt.isEmpty()) {
                return play("letter", spelt.remove(0));
            }
            if (!planned.isEmpty()) {
                return play("row", planned.remove(0));
            }
            int dice = random.nextInt(100);
            if (dice < 14) return play("fold", pick(1, 4), pick(0, 3));
            if (dice < 22) return play("opens");
            if (dice < 28) return play("turn", pick(0, 9), pick(0, 5), pick(0, 9));
            if (dice < 34) return play("wears", pick(0, 9), random.nextBoolean() ? pick(0, 99) : pick(0, 14));
            if (dice < 36) return play("cover", pick(0, 7));
            if (dice < 38) return plan();
            if (dice < 40) return spell();
            String[] names = {"map", "crease", "panel", "hurts", "over", "wad", "shut", "ways", "up", "most", "layers",
                "lasts", "tape", "first", "hole", "weakest", "wind", "mean", "whatIs", "judge", "clear", "lots", "image",
                "on", "count", "row", "letter", "wind", "layers", "whatIs"};
            String name = names[random.nextInt(names.length)];
            return playNamed(name);
        }

        private String playNamed(String name) {
            switch (name) {
                case "crease": return play(name, pick(0, 9), pick(0, 5));
                case "panel": return play(name, pick(0, 7), pick(0, 5));
                case "hurts": return play(name, pick(1, 4), pick(0, 3), pick(0, 2));
                case "over": return play(name, pick(0, 7), pick(0, 7));
                case "wad": return play(name, pick(0, 6));
                case "shut": case "weakest": return play(name, pick(0, 2));
                case "ways": return play(name, pick(0, 4));
                case "up": return play(name, pick(0, 7), pick(0, 7), pick(1, 8), pick(0, 1));
                case "most": return play(name, pick(0, 255), pick(1, 8), pick(0, 1));
                case "lasts": case "tape": return play(name, pick(1, 4), pick(0, 3));
                case "first": return play(name, pick(1, 4), pick(0, 3), pick(1, 4), pick(0, 3));
                case "hole": return play(name, pick(0, 2), pick(0, 1));
                case "wind": return play(name, pick(2, 20), pick(0, 1));
                case "mean": return play(name, pick(0, 1));
                case "whatIs": return play(name, pick(0, 9), pick(0, 1));
                case "lots": return play(name, pick(1, 20), random.nextInt(), pick(0, 1));
                case "count": return play(name, pick(0, 17));
                case "row": return play(name, pick(0, 99));
                case "letter": return play(name, pick(0, 255));
                default: return play(name);
            }
        }

        /** A row that makes sense: folds, an order that can be had, or efforts of one kind. */
        private String plan() {
            int sort = random.nextInt(3);
            if (sort == 0) {
                for (int i = 0; i <= random.nextInt(5); i++) {
                    planned.add(10 * (1 + random.nextInt(4)) + random.nextInt(4));
                }
            } else if (sort == 1) {
                List<Way> ways = y.allWays();
                ways.removeIf(way -> !Model.isShut(way.node()));
                List<Integer> stack = ways.get(random.nextInt(ways.size())).node().stackOf(0);
                for (int i = 7; i >= 0; i--) planned.add(stack.get(i));
            } else {
                int c = random.nextInt(10);
                int kind = random.nextBoolean() ? y.kind[c] : random.nextInt(6);
                int figure = random.nextBoolean() ? y.figure[c] : random.nextInt(10);
                for (int i = 0; i < 1 + random.nextInt(3); i++) {
                    int worn = random.nextInt(100);
                    planned.add(worn);
                    planned.add(Model.effort(kind, figure, worn, true));
                }
            }
            return play("clear");
        }

        private String spell() {
            StringBuilder text = new StringBuilder();
            for (int i = 0; i < 1 + random.nextInt(6); i++) {
                String[] heads = {"k", "w", "f", "o", "c"};
                String head = heads[random.nextInt(5)];
                text.append(head);
                if (head.equals("k")) text.append(random.nextInt(10)).append("cmvsto".charAt(random.nextInt(6)));
                if (head.equals("w")) text.append(String.format("%03d", random.nextInt(1000)));
                if (head.equals("f")) text.append(1 + random.nextInt(4));
                if (head.equals("k")) text.append(random.nextInt(10));
                if (head.equals("f")) text.append(random.nextInt(4));
                if (head.equals("c")) text.append(random.nextInt(random.nextInt(10) == 0 ? 10 : 8));
                text.append(';');
            }
            if (random.nextInt(4) == 0) text.setCharAt(random.nextInt(text.length()), "kwfocmvst0123456789;x".charAt(random.nextInt(21)));
            if (random.nextInt(8) == 0) text.setLength(random.nextInt(text.length()));
            for (char c : text.toString().toCharArray()) spelt.add((int) c);
            return play("map");
        }

        private String play(String name, int... a) {
            try {
                Class<?>[] types = new Class<?>[a.length];
                Object[] values = new Object[a.length];
                for (int i = 0; i < a.length; i++) {
                    types[i] = int.class;
                    values[i] = a[i];
                }
                got = ((Number) SmallerInTheShop.class.getMethod(name, types).invoke(x, values)).longValue();
                want = ((Number) Model.class.getDeclaredMethod(name, types).invoke(y, values)).longValue();
            } catch (ReflectiveOperationException e) {
                throw new IllegalStateException(name + java.util.Arrays.toString(a), e);
            }
            return name + "(" + java.util.Arrays.toString(a) + ")";
        }
    }
}
