import java.util.ArrayList;
import java.util.Arrays;
import java.util.List;

/**
 * The refusals of each promise in the order in which it tells them. Every call is made with all numbers
 * around its bounds in several states, and must answer the first refusal that fits; the refusal is
 * counted once, and nothing else changes. A question that is answered changes nothing at all.
 */
public final class RefusalsTest extends Due {
    private static final int LEAST = Integer.MIN_VALUE;
    private static final int GREATEST = Integer.MAX_VALUE;
    private static final List<State> STATES = new ArrayList<>();
    private static String call = "";

    public static void main(String[] args) {
        addStates();
        toldMaps();
        theWad();
        creases();
        whatFoldsHurt();
        waysFromNow();
        wearAndTear();
        byTheRow();
        theRest();
        end();
    }

    /** A state as it is made, and what of it the refusals ask for. */
    record State(String name, Make make, int width, int height, int folds, int told, boolean toldFoldsGo,
            int letters, boolean image) {
        boolean hasLine(int line) {
            return line == 4 ? height == 2 : line >= 1 && line < width;
        }

        SmallerInTheShop fresh() {
            SmallerInTheShop x = new SmallerInTheShop();
            make.on(x);
            return x;
        }
    }

    interface Make {
        void on(SmallerInTheShop x);
    }

    interface Call {
        long on(SmallerInTheShop x, int[] a);
    }

    interface Fits {
        boolean on(State state, int[] a);
    }

    record Refusal(int number, Fits fits) {
    }

    private static void addStates() {
        STATES.add(new State("new", x -> { }, 4, 2, 0, 0, true, 0, false));
        STATES.add(new State("told", x -> {
            adorn(x);
            x.image();
            x.cover(6);
            x.wears(9, 41);
            tellRow(x, 20, 11, 41);
            spell(x, "c5;");
        }, 4, 2, 0, 3, true, 3, true));
        STATES.add(new State("folded", x -> {
            adorn(x);
            x.fold(2, 0);
            x.image();
            x.opens();
            x.fold(2, 3);
            tellRow(x, 12, 8);
            spell(x, "o;f3");
        }, 2, 2, 1, 2, false, 4, true));
        STATES.add(new State("narrow", x -> {
            adorn(x);
            x.fold(4, 1);
            x.fold(3, 2);
            tellRow(x, 11, 10, 10, 10, 10);
        }, 3, 1, 2, 5, false, 0, false));
        STATES.add(new State("four told", x -> tellRow(x, 10, 11, 10, 41), 4, 2, 0, 4, true, 0, false));
        STATES.add(new State("shut", x -> {
            x.fold(2, 0);
            x.fold(1, 1);
            x.fold(4, 1);
            x.image();
            spell(x, "o;");
        }, 1, 1, 3, 0, true, 2, true));
        STATES.add(new State("all but full", x -> {
            tellRow(x, new int[15]);
            spell(x, "c7;".repeat(31) + "c6");
        }, 4, 2, 0, 15, false, 95, false));
        STATES.add(new State("full", x -> {
            tellRow(x, new int[16]);
            spell(x, "c7;".repeat(32));
        }, 4, 2, 0, 16, false, 96, false));
    }

    private static void adorn(SmallerInTheShop x) {
        x.turn(0, 1, 4);
        x.turn(1, 5, 9);
        x.turn(4, 3, 7);
        x.turn(9, 4, 1);
        x.wears(4, 9);
        x.wears(7, 38);
        x.cover(3);
    }

    private static void spell(SmallerInTheShop x, String text) {
        for (char c : text.toCharArray()) {
            x.letter(c);
        }
    }

    private static void toldMaps() {
        about("promise 2");
        changes("letter", (x, a) -> x.letter(a[0]), edges(around(0, 255)),
                no(-4, (s, a) -> a[0] < 0), no(-6, (s, a) -> a[0] > 255), no(-6, (s, a) -> s.letters == 96));
        about("promise 3");
        changes("map", (x, a) -> x.map(), edges());
    }

    private static void creases() {
        about("promise 4");
        asks("crease", (x, a) -> x.crease(a[0], a[1]), edges(around(0, 9), around(0, 5)),
                notIn(-1, 0, 0, 9), notIn(-2, 1, 0, 5));
        about("promise 8");
        changes("wears", (x, a) -> x.wears(a[0], a[1]), edges(around(0, 9), around(0, 99)),
                notIn(-1, 0, 0, 9), no(-4, (s, a) -> a[1] < 0), no(-6, (s, a) -> a[1] > 99));
        about("promise 9");
        changes("turn", (x, a) -> x.turn(a[0], a[1], a[2]), edges(around(0, 9), around(0, 5), around(0, 9)),
                notIn(-1, 0, 0, 9), notIn(-2, 1, 0, 5), no(-4, (s, a) -> a[2] < 0), no(-6, (s, a) -> a[2] > 9));
        about("promise 10");
        changes("cover", (x, a) -> x.cover(a[0]), edges(around(0, 7)), notIn(-1, 0, 0, 7));
    }

    private static void theWad() {
        about("promise 5");
        asks("panel", (x, a) -> x.panel(a[0], a[1]), edges(around(0, 7), around(0, 5)),
                notIn(-1, 0, 0, 7), notIn(-2, 1, 0, 5));
        about("promise 6");
        changes("fold", (x, a) -> x.fold(a[0], a[1]), edges(lines(), around(0, 3)), noLine(), notIn(-2, 1, 0, 3));
        about("promise 7");
        changes("opens", (x, a) -> x.opens(), edges(), no(-3, (s, a) -> s.folds == 0));
        about("promise 12");
        asks("over", (x, a) -> x.over(a[0], a[1]), edges(around(0, 7), around(0, 7)),
                notIn(-1, 0, 0, 7), notIn(-1, 1, 0, 7), no(-1, (s, a) -> a[0] == a[1]));
        about("promise 13");
        asks("wad", (x, a) -> x.wad(a[0]), edges(around(0, 6)), notIn(-2, 0, 0, 6));
    }

    private static void whatFoldsHurt() {
        about("promise 11");
        asks("hurts", (x, a) -> x.hurts(a[0], a[1], a[2]), edges(lines(), around(0, 3), around(0, 2)),
                noLine(), notIn(-2, 1, 0, 3), notIn(-2, 2, 0, 2));
        about("promise 19");
        asks("lasts", (x, a) -> x.lasts(a[0], a[1]), edges(lines(), around(0, 3)), noLine(), notIn(-2, 1, 0, 3));
        about("promise 20");
        asks("tape", (x, a) -> x.tape(a[0], a[1]), edges(lines(), around(0, 3)), noLine(), notIn(-2, 1, 0, 3));
        about("promise 21");
        asks("first", (x, a) -> x.first(a[0], a[1], a[2], a[3]), edges(around(1, 4), around(0, 3), around(1, 4), around(0, 3)),
                notIn(-1, 0, 1, 4), notIn(-1, 2, 1, 4), notIn(-2, 1, 0, 3), notIn(-2, 3, 0, 3));
    }

    private static void waysFromNow() {
        about("promise 14");
        asks("shut", (x, a) -> x.shut(a[0]), edges(around(0, 2)), notIn(-2, 0, 0, 2));
        about("promise 15");
        asks("ways", (x, a) -> x.ways(a[0]), edges(around(0, 4)), no(-4, (s, a) -> a[0] < 0), no(-6, (s, a) -> a[0] > 4));
        about("promise 16");
        asks("up", (x, a) -> x.up(a[0], a[1], a[2], a[3]), edges(around(0, 7), around(0, 7), around(1, 8), around(0, 1)),
                notIn(-1, 0, 0, 7), notIn(-1, 1, 0, 7), no(-1, (s, a) -> a[0] == a[1]),
                no(-4, (s, a) -> a[2] < 1), no(-6, (s, a) -> a[2] > 8), notIn(-2, 3, 0, 1));
        about("promise 17");
        asks("most", (x, a) -> x.most(a[0], a[1], a[2]), edges(around(0, 255), around(1, 8), around(0, 1)),
                no(-4, (s, a) -> a[0] < 0), no(-4, (s, a) -> a[1] < 1),
                no(-6, (s, a) -> a[0] > 255), no(-6, (s, a) -> a[1] > 8), notIn(-2, 2, 0, 1));
        about("promise 18");
        asks("layers", (x, a) -> x.layers(), edges());
    }

    private static void wearAndTear() {
        about("promise 22");
        asks("hole", (x, a) -> x.hole(a[0], a[1]), edges(around(0, 2), around(0, 1)), notIn(-1, 0, 0, 2), notIn(-2, 1, 0, 1));
        about("promise 23");
        asks("weakest", (x, a) -> x.weakest(a[0]), edges(around(0, 2)), notIn(-2, 0, 0, 2));
        about("promise 25");
        asks("mean", (x, a) -> shortened(x.mean(a[0])), edges(around(0, 1)), notIn(-2, 0, 0, 1));
    }

    private static void byTheRow() {
        about("promise 24");
        asks("wind", (x, a) -> shortened(x.wind(a[0], a[1])), edges(around(2, 20), around(0, 1)),
                no(-4, (s, a) -> a[0] < 2), no(-6, (s, a) -> a[0] > 20),
                no(-3, (s, a) -> !s.toldFoldsGo), notIn(-2, 1, 0, 1));
        about("promise 26");
        asks("whatIs", (x, a) -> x.whatIs(a[0], a[1]), edges(around(0, 9), around(0, 1)),
                notIn(-1, 0, 0, 9), notIn(-2, 1, 0, 1), no(-3, (s, a) -> s.told % 2 == 1));
        about("promise 27");
        changes("row", (x, a) -> x.row(a[0]), edges(around(0, 99)),
                no(-4, (s, a) -> a[0] < 0), no(-6, (s, a) -> a[0] > 99), no(-6, (s, a) -> s.told == 16));
        about("promise 28");
        changes("judge", (x, a) -> x.judge(), edges());
        about("promise 29");
        changes("clear", (x, a) -> x.clear(), edges());
    }

    private static void theRest() {
        about("promise 30");
        asks("lots", (x, a) -> x.lots(a[0], a[1], a[2]), edges(around(1, 20), around(-1, 1), around(0, 1)),
                no(-4, (s, a) -> a[0] < 1), no(-6, (s, a) -> a[0] > 20), notIn(-2, 2, 0, 1));
        about("promise 31");
        changes("image", (x, a) -> x.image(), edges());
        about("promise 32");
        changes("on", (x, a) -> x.on(), edges(), no(-3, (s, a) -> !s.image));
        about("promise 33");
        // Another what is answered by -9, which is no refusal.
        asks("count", (x, a) -> x.count(a[0]), edges(around(0, 7)));
        asks("count", (x, a) -> x.count(a[0]), edges(around(11, 16)));
    }

    private static Refusal no(int number, Fits fits) {
        return new Refusal(number, fits);
    }

    private static Refusal notIn(int number, int place, int least, int greatest) {
        return no(number, (s, a) -> a[place] < least || a[place] > greatest);
    }

    private static Refusal noLine() {
        return no(-1, (s, a) -> !s.hasLine(a[0]));
    }

    private static int[] around(int least, int greatest) {
        return new int[] {LEAST, least - 1, least, greatest, greatest + 1, GREATEST};
    }

    private static int[] lines() {
        return new int[] {LEAST, -1, 0, 1, 2, 3, 4, 5, GREATEST};
    }

    private static int[][] edges(int[]... values) {
        return values;
    }

    /** A long's refusal as an int's; other answers as they are. */
    private static long shortened(long answer) {
        return answer > REFUSED && answer <= REFUSED + 6 ? REFUSED - answer : answer;
    }

    private static void asks(String name, Call made, int[][] edges, Refusal... refusals) {
        inEachState(name, made, edges, refusals, true);
    }

    private static void changes(String name, Call made, int[][] edges, Refusal... refusals) {
        inEachState(name, made, edges, refusals, false);
    }

    private static void inEachState(String name, Call made, int[][] edges, Refusal[] refusals, boolean onlyAsks) {
        for (State state : STATES) {
            int[] before = lookAt(state.fresh());
            int[] at = new int[edges.length];
            boolean more = true;
            while (more) {
                int[] a = new int[edges.length];
                for (int i = 0; i < a.length; i++) {
                    a[i] = edges[i][at[i]];
                }
                call = state.name + ": " + name + Arrays.toString(a);
                callOnce(state, made, a, dueRefusal(state, a, refusals), onlyAsks, before);
                more = step(at, edges);
            }
        }
    }

    private static boolean step(int[] at, int[][] edges) {
        for (int i = 0; i < at.length; i++) {
            at[i]++;
            if (at[i] < edges[i].length) {
                return true;
            }
            at[i] = 0;
        }
        return false;
    }

    private static int dueRefusal(State state, int[] a, Refusal[] refusals) {
        for (Refusal refusal : refusals) {
            if (refusal.fits.on(state, a)) {
                return refusal.number;
            }
        }
        return 0;
    }

    private static void callOnce(State state, Call made, int[] a, int refusal, boolean onlyAsks, int[] before) {
        SmallerInTheShop x = state.fresh();
        long answer = made.on(x, a);
        boolean refused = answer < 0 && answer >= -6;
        due(call, refused ? answer : 0, refusal);
        if (refusal == 0 && !onlyAsks) {
            for (int i = 1; i <= 6; i++) {
                due(call + ", refusals -" + i, x.count(10 + i), before[i - 1]);
            }
            return;
        }
        int[] want = before.clone();
        if (refusal != 0) {
            want[-refusal - 1]++;
        }
        int[] got = lookAt(x);
        for (int i = 0; i < want.length; i++) {
            due(call + ", what is seen behind it at " + i, got[i], want[i]);
        }
    }

    /** All that can be seen of a map, with the refusals first; its row and its letters are used up by it. */
    private static int[] lookAt(SmallerInTheShop x) {
        List<Integer> seen = new ArrayList<>();
        for (int what = 11; what <= 16; what++) {
            seen.add(x.count(what));
        }
        lookAtMap(x, seen);
        seen.add(x.count(6));
        seen.add((int) shortened(x.wind(3, 0)));
        seen.add((int) shortened(x.wind(3, 1)));
        seen.add(x.whatIs(1, 0));
        seen.add(x.judge());
        seen.add(x.count(7));
        seen.add(x.map());
        seen.add(x.count(3));
        seen.add(x.on());
        lookAtMap(x, seen);
        for (int i = 0; i < 4; i++) {
            seen.add(x.opens());
            seen.add(x.wad(0));
        }
        return seen.stream().mapToInt(Integer::intValue).toArray();
    }

    private static void lookAtMap(SmallerInTheShop x, List<Integer> seen) {
        for (int c = 0; c < 10; c++) {
            for (int what = 0; what <= 3; what++) {
                seen.add(x.crease(c, what));
            }
        }
        for (int p = 0; p < 8; p++) {
            for (int what = 0; what <= 3; what++) {
                seen.add(x.panel(p, what));
            }
        }
        seen.add(x.count(3));
        seen.add(x.wad(0));
        seen.add(x.wad(1));
        seen.add(x.wad(5));
    }
}
