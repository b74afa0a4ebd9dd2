/** Each promise by answers worked out by hand from the document: ordinary, at the edges, refused. */
public final class PromisesTest extends Due {
    public static void main(String[] args) {
        aNewObject();
        letter();
        mapTakesStatements();
        mapFaults();
        crease();
        panel();
        foldOver();
        foldUnderAndGreaterPart();
        foldRows();
        foldEffortAndWear();
        opens();
        wears();
        turn();
        cover();
        hurts();
        over();
        wad();
        shut();
        ways();
        up();
        most();
        layers();
        lasts();
        tape();
        first();
        hole();
        weakest();
        wind();
        mean();
        whatIs();
        row();
        judge();
        clear();
        lots();
        imageAndOn();
        count();
        extremes();
        end();
    }

    /** The stack of a shut wad, uppermost first, as digits. */
    private static String stack(SmallerInTheShop x) {
        char[] panels = new char[8];
        for (int p = 0; p < 8; p++) {
            panels[x.panel(p, 5)] = (char) ('0' + p);
        }
        return new String(panels);
    }

    private static void dueStack(String what, SmallerInTheShop x, String want) {
        due(what + " " + stack(x) + " for " + want, stack(x).equals(want) ? 1 : 0, 1);
    }

    private static void aNewObject() {
        about("promise 1");
        SmallerInTheShop x = new SmallerInTheShop();
        for (int p = 0; p < 8; p++) {
            due("column of " + p, x.panel(p, 0), p % 4);
            due("row of " + p, x.panel(p, 1), p / 4);
            due("layer of " + p, x.panel(p, 2), 0);
            due("face of " + p, x.panel(p, 3), 0);
        }
        for (int c = 0; c < 10; c++) {
            for (int what = 0; what < 4; what++) {
                due("crease " + c, x.crease(c, what), 0);
            }
        }
        due("cover", x.count(3), 0);
        due("folds", x.count(0), 0);
        due("no image", x.on(), -3);
    }

    private static void letter() {
        about("promise 2");
        SmallerInTheShop x = new SmallerInTheShop();
        due("letter(0)", x.letter(0), 1);
        due("letter(255)", x.letter(255), 2);
        due("letter(-1)", x.letter(-1), -4);
        due("letter(256)", x.letter(256), -6);
        for (int i = 3; i <= 96; i++) {
            due("letter " + i, x.letter('o'), i);
        }
        due("letter 97", x.letter('o'), -6);
        due("below comes ahead of room", x.letter(-1), -4);
        due("letters", x.count(7), 96);
        due("refusals -4", x.count(14), 2);
        due("refusals -6", x.count(16), 2);
    }

    private static void mapTakesStatements() {
        about("promise 3");
        SmallerInTheShop x = new SmallerInTheShop();
        due("all statements", tell(x, "k9s7;w912;f20;f10;o;c7;"), 6);
        due("kind", x.crease(9, 0), 3);
        due("figure", x.crease(9, 1), 7);
        due("worn", x.crease(9, 2), 12);
        due("folds", x.count(0), 1);
        due("width", x.wad(0), 2);
        due("cover", x.count(3), 7);
        due("letters are no more", x.count(7), 0);
        due("a map goes on from now", tell(x, "f10;"), 1);
        due("so it does", x.wad(0), 1);
        due("folds from ahead are opened", tell(x, "o;o;"), 2);
        due("worn stays", x.crease(1, 2), 1);
        due("worn of two folds", x.crease(0, 2), 2);
        String kinds = "cmvsto";
        for (int kind = 0; kind < 6; kind++) {
            due("kind letter", tell(x, "k4" + kinds.charAt(kind) + kind + ";"), 1);
            due("kind", x.turn(4, 0, 0), 11 * kind);
        }
        StringBuilder longest = new StringBuilder();
        for (int i = 0; i < 32; i++) {
            longest.append("c").append(i % 8).append(";");
        }
        due("96 letters", tell(x, longest.toString()), 32);
    }

    private static void mapFaults() {
        about("promise 3");
        String[] texts = {"", "x", ";", "k", "kx", "k0", "k0q", "k0c", "k0cx", "k0c0", "k0c0x", "K0c0;", "w0", "w01", "w012",
            "w0123", "w0a2;", "f1", "f10", "f100", "fa", "o", "ox", "o1", "c", "c1", "c11", "cc", "o;;", "c1;x", "c9;x",
            "f99;k"};
        int[] places = {0, 0, 0, 1, 1, 2, 2, 3, 3, 4, 4, 0, 2, 3, 4, 4, 2, 2, 3, 3, 1, 1, 1, 1, 1, 2, 2, 1, 2, 3, 3, 5};
        for (int i = 0; i < texts.length; i++) {
            SmallerInTheShop x = new SmallerInTheShop();
            due("'" + texts[i] + "'", tell(x, texts[i]), -1000 - places[i]);
            due("letters are no more", x.count(7), 0);
        }
        String[] senseless = {"o;", "c8;", "c9;", "f00;", "f50;", "f14;", "f19;", "f40;f40;", "f30;f30;", "f20;f20;", "f10;o;o;",
            "k1m5;w133;c4;f20;f30;"};
        int[] starts = {0, 0, 0, 0, 0, 0, 0, 4, 4, 4, 6, 17};
        for (int i = 0; i < senseless.length; i++) {
            SmallerInTheShop x = new SmallerInTheShop();
            due("'" + senseless[i] + "'", tell(x, senseless[i]), -2000 - starts[i]);
            due("nothing of it comes", x.count(0) + x.count(1) + x.count(3) + x.crease(1, 0), 0);
            for (int what = 11; what <= 16; what++) {
                due("no refusal is counted", x.count(what), 0);
            }
        }
    }

    private static void crease() {
        about("promise 4");
        SmallerInTheShop x = new SmallerInTheShop();
        // kind, figure, worn, effort on the mountain side, on the valley side
        int[][] cases = {{0, 9, 50, 3, 3}, {1, 4, 50, 3, 7}, {2, 4, 50, 7, 3}, {3, 4, 9, 3, 7}, {3, 4, 10, 7, 3}, {3, 4, 99, 7, 3},
            {4, 9, 50, 7, 7}, {5, 4, 50, 3, 1}, {5, 9, 0, 6, 1}, {5, 0, 0, 1, 1}};
        for (int[] c : cases) {
            x.turn(6, c[0], c[1]);
            x.wears(6, c[2]);
            due("kind", x.crease(6, 0), c[0]);
            due("figure", x.crease(6, 1), c[1]);
            due("worn", x.crease(6, 2), c[2]);
            due("mountain effort of kind " + c[0], x.crease(6, 4), c[3]);
            due("valley effort of kind " + c[0], x.crease(6, 5), c[4]);
        }
        x.fold(4, 0);
        due("valley", x.crease(6, 3), 2);
        x.opens();
        due("flat", x.crease(6, 3), 0);
        x.fold(4, 1);
        due("mountain", x.crease(6, 3), 1);
        due("no such crease", x.crease(10, 9), -1);
        due("no such crease", x.crease(-1, 0), -1);
        due("other", x.crease(9, 6), -2);
        due("other", x.crease(9, -1), -2);
    }

    private static void panel() {
        about("promise 5");
        SmallerInTheShop x = new SmallerInTheShop();
        x.fold(2, 1);
        // the left half goes under: panel 1 comes under 2, panel 0 under 3
        int[][] want = {{1, 0, 0, 1, 1, 1}, {0, 0, 0, 1, 1, 1}, {0, 0, 1, 0, 1, 0}, {1, 0, 1, 0, 1, 0},
            {1, 1, 0, 1, 1, 1}, {0, 1, 0, 1, 1, 1}, {0, 1, 1, 0, 1, 0}, {1, 1, 1, 0, 1, 0}};
        for (int p = 0; p < 8; p++) {
            for (int what = 0; what < 6; what++) {
                due("panel(" + p + ", " + what + ")", x.panel(p, what), want[p][what]);
            }
        }
        x.opens();
        x.fold(2, 0);
        for (int p = 0; p < 8; p++) {
            due("faces are inside", x.panel(p, 4), 0);
        }
        due("no such panel", x.panel(8, 6), -1);
        due("no such panel", x.panel(-1, 0), -1);
        due("other", x.panel(7, 6), -2);
        due("other", x.panel(7, -1), -2);
    }

    private static void foldOver() {
        about("promise 6");
        SmallerInTheShop x = new SmallerInTheShop();
        due("fold(1, 0)", x.fold(1, 0), 6);
        due("width", x.wad(0), 3);
        due("0 over 1", x.over(0, 1), 1);
        due("0 lies in the first column", x.panel(0, 0), 0);
        due("2 lies in the second", x.panel(2, 0), 1);
        due("0 face down", x.panel(0, 3), 1);
        due("1 face up", x.panel(1, 3), 0);
        due("fold(2, 2)", x.fold(2, 2), 6);
        due("3 over 2", x.over(3, 2), 1);
        due("width", x.wad(0), 2);
        // one crease up, one crease down: 2 and 3 lie in column 1, 0 and 1 in column 0
        due("fold(1, 2)", x.fold(1, 2), 6);
        due("crease 1 is a valley, its panels lay face up", x.crease(1, 3), 2);
        due("fold(4, 2)", x.fold(4, 2), 12);
        // a row from the lowest: 1 0, and 2 3 turned over it: 1 0 3 2; the other row, 5 4 7 6, turned above
        dueStack("stack", x, "54762301");
    }

    private static void foldUnderAndGreaterPart() {
        about("promise 6");
        SmallerInTheShop x = new SmallerInTheShop();
        due("fold(3, 1)", x.fold(3, 1), 6);
        due("the greater part goes under", x.over(3, 2), 1);
        due("3 comes first", x.panel(3, 0), 0);
        due("1 is behind it", x.panel(1, 0), 1);
        due("0 is last", x.panel(0, 0), 2);
        due("0 face down", x.panel(0, 3), 1);
        due("crease 2 is a mountain", x.crease(2, 3), 1);
        due("fold(2, 0)", x.fold(2, 0), 6);
        // columns 0 and 1 (2 3 and 1) go over 0
        due("1 over 0", x.over(1, 0), 1);
        due("crease 0: over, face down: mountain", x.crease(0, 3), 1);
        due("fold(1, 3)", x.fold(1, 3), 6);
        due("crease 1: under, face up again: 1 lies face up", x.panel(1, 3), 0);
        SmallerInTheShop y = new SmallerInTheShop();
        due("fold(1, 3)", y.fold(1, 3), 6);
        due("the other part goes under", y.over(0, 1), 1);
        due("3 comes first", y.panel(3, 0), 0);
        due("0 is last", y.panel(0, 0), 2);
        due("no line 3 at width 3", y.fold(3, 0), -1);
    }

    private static void foldRows() {
        about("promise 6");
        int[] over = {1, 0, 0, 1};
        int[] downs = {0, 0, 1, 1};
        int[] sides = {2, 1, 2, 1};
        for (int way = 0; way < 4; way++) {
            SmallerInTheShop x = new SmallerInTheShop();
            due("fold(4, " + way + ")", x.fold(4, way), 12);
            due("height", x.wad(1), 1);
            due("width", x.wad(0), 4);
            due("upper row over", x.over(0, 4), over[way]);
            due("lower row over", x.over(4, 0), 1 - over[way]);
            due("row 0 down", x.panel(0, 3), 1 - downs[way]);
            due("row 1 down", x.panel(4, 3), downs[way]);
            due("row of 4", x.panel(4, 1), 0);
            due("side", x.crease(9, 3), sides[way]);
            due("folded", x.count(2), 960);
            due("line 4 is no more", x.fold(4, way), -1);
        }
        SmallerInTheShop x = new SmallerInTheShop();
        due("line 0", x.fold(0, 9), -1);
        due("line 5", x.fold(5, 0), -1);
        due("way -1", x.fold(1, -1), -2);
        due("way 4", x.fold(1, 4), -2);
        due("nothing changed", x.count(0) + x.count(1), 0);
    }

    private static void foldEffortAndWear() {
        about("promise 6");
        SmallerInTheShop x = new SmallerInTheShop();
        x.turn(1, 1, 5);
        x.turn(4, 5, 6);
        due("m5 and o6 in the valley", x.fold(2, 0), 8 + 1);
        due("m wears 2", x.crease(1, 2), 2);
        due("o wears 2", x.crease(4, 2), 2);
        x.opens();
        due("m5 and o6 on the mountain", x.fold(2, 1), 3 + 4);
        due("m wears 1", x.crease(1, 2), 3);
        due("o wears 3", x.crease(4, 2), 5);
        x.opens();
        x.turn(1, 2, 1);
        x.turn(4, 4, 6);
        due("v1 and t on the mountain", x.fold(2, 1), 4 + 7);
        due("v wears 2", x.crease(1, 2), 5);
        due("t wears 0", x.crease(4, 2), 5);
        x.opens();
        due("v1 and t in the valley", x.fold(2, 0), 3 + 7);
        due("v wears 1", x.crease(1, 2), 6);
        x.opens();
        x.turn(1, 3, 9);
        x.wears(1, 8);
        due("s9, worn 8, in the valley", x.fold(2, 0), 12 + 7);
        due("it wears 2", x.crease(1, 2), 10);
        x.opens();
        due("s9, worn 10, in the valley", x.fold(2, 0), 3 + 7);
        due("it wears 1", x.crease(1, 2), 11);
        x.opens();
        x.wears(1, 98);
        due("s9, worn 98, on the mountain", x.fold(2, 1), 12 + 7);
        due("99 at most", x.crease(1, 2), 99);
    }

    private static void opens() {
        about("promise 7");
        SmallerInTheShop x = new SmallerInTheShop();
        due("nothing to open", x.opens(), -3);
        x.fold(3, 0);
        x.fold(2, 1);
        x.fold(4, 3);
        due("folds left", x.opens(), 2);
        due("height", x.wad(1), 2);
        due("rows are flat", x.count(2), 1 + 4 + 8 + 32);
        due("folds left", x.opens(), 1);
        due("width", x.wad(0), 3);
        due("crease 0 is flat", x.crease(0, 3), 0);
        due("crease 2 is not", x.crease(2, 3), 2);
        due("2 above 3", x.over(2, 3), 1);
        due("folds left", x.opens(), 0);
        due("all flat", x.wad(6), 1023);
        due("all read", x.wad(3), 255);
        due("worn stays", x.count(1), 8);
        due("nothing to open", x.opens(), -3);
        due("refusals", x.count(13), 2);
    }

    private static void wears() {
        about("promise 8");
        SmallerInTheShop x = new SmallerInTheShop();
        due("wears(9, 99)", x.wears(9, 99), 0);
        due("wears(9, 0)", x.wears(9, 0), 99);
        due("wears(0, 7)", x.wears(0, 7), 0);
        due("worn", x.crease(0, 2), 7);
        due("no such crease", x.wears(10, -1), -1);
        due("no such crease", x.wears(-1, 100), -1);
        due("below", x.wears(0, -1), -4);
        due("above", x.wears(0, 100), -6);
        due("nothing changed", x.count(1), 7);
    }

    private static void turn() {
        about("promise 9");
        SmallerInTheShop x = new SmallerInTheShop();
        x.wears(3, 12);
        due("turn(3, 5, 9)", x.turn(3, 5, 9), 0);
        due("turn(3, 1, 0)", x.turn(3, 1, 0), 59);
        due("turn(3, 0, 4)", x.turn(3, 0, 4), 10);
        due("worn as it was", x.crease(3, 2), 12);
        due("no such crease", x.turn(10, 6, -1), -1);
        due("no such kind", x.turn(3, 6, -1), -2);
        due("no such kind", x.turn(3, -1, 10), -2);
        due("below", x.turn(3, 5, -1), -4);
        due("above", x.turn(3, 5, 10), -6);
        due("nothing changed", x.turn(3, 0, 0), 4);
    }

    private static void cover() {
        about("promise 10");
        SmallerInTheShop x = new SmallerInTheShop();
        due("cover(7)", x.cover(7), 0);
        due("cover(3)", x.cover(3), 7);
        due("cover(8)", x.cover(8), -1);
        due("cover(-1)", x.cover(-1), -1);
        due("cover is 3", x.count(3), 3);
    }

    private static void hurts() {
        about("promise 11");
        SmallerInTheShop x = new SmallerInTheShop();
        x.turn(1, 1, 5);
        due("effort", x.hurts(2, 0, 0), 11);
        due("creases", x.hurts(2, 0, 1), 18);
        due("worn more", x.hurts(2, 0, 2), 3);
        due("effort under", x.hurts(2, 1, 0), 6);
        due("worn more under", x.hurts(2, 1, 2), 2);
        due("rows", x.hurts(4, 3, 1), 960);
        x.wears(1, 98);
        due("no more than to 99", x.hurts(2, 0, 2), 2);
        x.wears(1, 99);
        due("no more than 99", x.hurts(2, 0, 2), 1);
        due("nothing changed", x.count(1) + x.count(0), 99);
        due("line ahead of all", x.hurts(5, 4, 3), -1);
        due("way", x.hurts(4, 4, 3), -2);
        due("what", x.hurts(4, 3, 3), -2);
        due("what", x.hurts(4, 3, -1), -2);
        x.fold(2, 0);
        due("no such line now", x.hurts(2, 0, 0), -1);
        due("creases 0, 2, 3, 5", x.hurts(1, 0, 1), 1 + 4 + 8 + 32);
    }

    private static void over() {
        about("promise 12");
        SmallerInTheShop x = new SmallerInTheShop();
        due("beside one another", x.over(0, 1), 0);
        x.fold(2, 0);
        due("1 over 2", x.over(1, 2), 1);
        due("2 over 1", x.over(2, 1), 0);
        due("0 over 3", x.over(0, 3), 1);
        due("0 over 2", x.over(0, 2), 0);
        x.fold(1, 1);
        // from the lowest: 1 2 3 0
        due("2 over 1", x.over(2, 1), 1);
        due("0 over 1", x.over(0, 1), 1);
        due("rows apart", x.over(4, 1), 0);
        due("one twice", x.over(3, 3), -1);
        due("no such panel", x.over(8, 0), -1);
        due("no such panel", x.over(0, 8), -1);
        due("no such panel", x.over(-1, 0), -1);
    }

    private static void wad() {
        about("promise 13");
        SmallerInTheShop x = new SmallerInTheShop();
        int[] flat = {4, 2, 1, 255, 1, 0, 1023};
        for (int what = 0; what < 7; what++) {
            due("flat, wad(" + what + ")", x.wad(what), flat[what]);
        }
        x.fold(2, 0);
        int[] inside = {2, 2, 2, 0, 1, 1, 1005};
        for (int what = 0; what < 7; what++) {
            due("faces inside, wad(" + what + ")", x.wad(what), inside[what]);
        }
        x.opens();
        x.fold(2, 1);
        due("faces outside", x.wad(3), 255);
        due("cover is inside", x.wad(4), 0);
        x.opens();
        x.fold(1, 1);
        due("thickness 2", x.wad(2), 2);
        x.cover(3);
        due("cover of a panel that did not move", x.wad(4), 1);
        due("other", x.wad(7), -2);
        due("other", x.wad(-1), -2);
    }

    private static void shut() {
        about("promise 14");
        SmallerInTheShop x = new SmallerInTheShop();
        due("way", x.shut(0), 201141);
        due("effort", x.shut(1), 30);
        due("soonest", x.shut(2), 3);
        due("nothing changed", x.count(0) + x.count(1), 0);
        x.fold(2, 0);
        x.fold(1, 1);
        x.fold(4, 1);
        dueStack("that way", x, "47651230");
        due("shut with cover out: no fold", x.shut(0), 0);
        due("effort", x.shut(1), 0);
        due("soonest", x.shut(2), 0);
        x.cover(7);
        due("cover inside", x.shut(0), -9);
        due("cover inside", x.shut(1), -9);
        due("cover inside", x.shut(2), -9);
        SmallerInTheShop y = new SmallerInTheShop();
        // the middle creases are soft: worth 1 in the valley, 6 on the mountain
        y.turn(1, 5, 9);
        y.turn(4, 5, 9);
        due("both in the valley", y.shut(1), 24 + 2);
        due("other", y.shut(3), -2);
        due("other", y.shut(-1), -2);
    }

    private static void ways() {
        about("promise 15");
        SmallerInTheShop x = new SmallerInTheShop();
        due("ways(0)", x.ways(0), 0);
        due("ways(1)", x.ways(1), 0);
        due("ways(2)", x.ways(2), 0);
        // in each of the three orders of the lines 2, 1, 4 (with 2 ahead of 1) one of two by two by two, each eightfold
        due("ways(3)", x.ways(3), 24);
        x.fold(2, 0);
        x.fold(1, 1);
        due("ways(1)", x.ways(1), 2);
        x.fold(4, 1);
        due("ways(0)", x.ways(0), 1);
        due("ways(1)", x.ways(1), 0);
        x.opens();
        x.fold(4, 0);
        due("ways(0)", x.ways(0), 0);
        due("below", x.ways(-1), -4);
        due("above", x.ways(5), -6);
    }

    private static void up() {
        about("promise 16");
        SmallerInTheShop x = new SmallerInTheShop();
        due("both are read", x.up(0, 1, 8, 0), 0);
        due("without effort", x.up(0, 1, 8, 1), 0);
        due("half the pocket", x.up(0, 1, 4, 0), 21);
        due("effort", x.up(0, 1, 4, 1), 6);
        x.turn(1, 2, 9);
        x.turn(4, 2, 9);
        // the middle costs 24 on the mountain now, the rows 12
        due("by the rows", x.up(0, 1, 4, 0), 41);
        due("effort", x.up(0, 1, 4, 1), 12);
        x.fold(2, 0);
        due("faces are inside", x.up(0, 1, 8, 0), -9);
        due("faces are inside", x.up(0, 1, 8, 1), -9);
        due("one twice", x.up(3, 3, 0, 9), -1);
        due("no such panel", x.up(8, 3, 0, 9), -1);
        due("no such panel", x.up(3, -1, 0, 9), -1);
        due("below", x.up(3, 2, 0, 9), -4);
        due("above", x.up(3, 2, 9, 9), -6);
        due("other", x.up(3, 2, 8, 2), -2);
        due("other", x.up(3, 2, 8, -1), -2);
    }

    private static void most() {
        about("promise 17");
        SmallerInTheShop x = new SmallerInTheShop();
        due("all", x.most(255, 8, 0), 8);
        due("as it lies", x.most(255, 8, 1), 0);
        due("all in half the pocket", x.most(255, 4, 0), 8);
        due("by the middle", x.most(255, 4, 1), 21);
        due("shut", x.most(255, 1, 0), 2);
        due("first shut way with faces out", x.most(255, 1, 1), 211040);
        due("none told", x.most(0, 8, 0), 0);
        due("none told, none needed", x.most(0, 8, 1), 0);
        x.fold(2, 0);
        due("faces inside", x.most(255, 8, 0), 0);
        due("nothing to do", x.most(255, 8, 1), 0);
        due("set below", x.most(-1, 9, 2), -4);
        due("m below comes ahead of set above", x.most(256, 0, 2), -4);
        due("set above", x.most(256, 1, 2), -6);
        due("m above", x.most(255, 9, 2), -6);
        due("other", x.most(255, 8, 2), -2);
        due("other", x.most(255, 8, -1), -2);
    }

    private static void layers() {
        about("promise 18");
        SmallerInTheShop x = new SmallerInTheShop();
        due("no row", x.layers(), -9);
        tellRow(x, 4, 7, 6, 5, 1, 2, 3, 0);
        due("the way", x.layers(), 201141);
        due("the row stays", x.count(6), 8);
        tellRow(x, 0, 3, 2, 1, 5, 6, 7, 4);
        due("turned over: the last fold is another", x.layers(), 201143);
        x.row(0);
        due("nine told", x.layers(), -9);
        tellRow(x, 4, 7, 6, 5, 1, 2, 3);
        due("seven told", x.layers(), -9);
        tellRow(x, 4, 7, 6, 5, 1, 2, 3, 3);
        due("one twice", x.layers(), -9);
        tellRow(x, 4, 7, 6, 5, 1, 2, 3, 99);
        due("no panel", x.layers(), -9);
        tellRow(x, 0, 1, 2, 3, 4, 5, 6, 7);
        due("can't be had by folds through all layers", x.layers(), -9);
        tellRow(x, 4, 7, 6, 5, 1, 2, 3, 0);
        x.fold(2, 0);
        x.fold(1, 1);
        x.fold(4, 1);
        due("they lie so", x.layers(), 0);
        x.opens();
        due("from now", x.layers(), 41);
        for (int what = 11; what <= 16; what++) {
            due("no refusal", x.count(what), 0);
        }
    }

    private static void lasts() {
        about("promise 19");
        SmallerInTheShop x = new SmallerInTheShop();
        due("2 a time", x.lasts(1, 0), 20);
        due("2 a time", x.lasts(4, 2), 20);
        x.wears(0, 39);
        due("at the next", x.lasts(1, 0), 1);
        x.wears(0, 38);
        due("just 40", x.lasts(1, 0), 1);
        x.wears(0, 37);
        due("two times", x.lasts(1, 0), 2);
        x.wears(0, 40);
        due("this hole is there, no other comes", x.lasts(1, 0), 99);
        due("another one comes", x.lasts(2, 0), 20);
        x.wears(0, 0);
        x.turn(3, 4, 0);
        due("1 a time", x.lasts(1, 0), 40);
        x.turn(0, 3, 0);
        due("five times 2, thirty times 1", x.lasts(1, 0), 35);
        due("ten times 1, fifteen times 2", x.lasts(1, 1), 25);
        x.turn(0, 4, 0);
        due("never", x.lasts(1, 0), 99);
        due("nothing changed", x.count(1) + x.count(0), 0);
        x.fold(2, 0);
        due("no such line", x.lasts(2, 9), -1);
        due("no such way", x.lasts(1, 4), -2);
        due("no such way", x.lasts(1, -1), -2);
    }

    private static void tape() {
        about("promise 20");
        SmallerInTheShop x = new SmallerInTheShop();
        due("the least of two", x.tape(1, 0), 0);
        x.turn(3, 1, 0);
        due("the one that wears more", x.tape(1, 0), 3);
        due("alike on the mountain", x.tape(1, 1), 0);
        // crossings 1 (creases 7, 8) and 0 (6, 7) by the rows: 7 is in both; 2 has 8, 9
        x.wears(1, 20);
        due("crossing 1 goes first, 7 or 8 save it", x.tape(4, 0), 7);
        x.wears(1, 0);
        x.turn(0, 4, 0);
        x.turn(3, 4, 0);
        due("no hole comes", x.tape(1, 0), -9);
        due("nothing changed", x.count(1), 0);
        x.turn(0, 0, 0);
        x.wears(0, 40);
        due("the hole is there", x.tape(1, 0), -9);
        due("no such line", x.tape(0, 9), -1);
        due("no such way", x.tape(1, 4), -2);
        due("no such way", x.tape(1, -1), -2);
    }

    private static void first() {
        about("promise 21");
        SmallerInTheShop x = new SmallerInTheShop();
        due("alike", x.first(2, 0, 4, 0), -9);
        // crease 1 is a valley when 2 goes first, a mountain when the row has been turned over ahead of it
        x.turn(1, 2, 5);
        due("2 ahead of 4", x.first(2, 0, 4, 0), 0);
        due("2 ahead of 4", x.first(4, 0, 2, 0), 1);
        due("only 3 ahead of 1", x.first(1, 0, 3, 0), 1);
        due("only 3 ahead of 1", x.first(3, 0, 1, 0), 0);
        due("neither", x.first(4, 0, 4, 1), -9);
        due("nothing changed", x.count(1) + x.count(0), 0);
        x.fold(2, 0);
        due("line 3 is none now, but it is a line", x.first(3, 0, 4, 0), -9);
        due("no line", x.first(0, 4, 1, 0), -1);
        due("no line", x.first(1, 4, 5, 0), -1);
        due("no way", x.first(1, 4, 1, 0), -2);
        due("no way", x.first(1, 0, 1, -1), -2);
    }

    private static void hole() {
        about("promise 22");
        SmallerInTheShop x = new SmallerInTheShop();
        x.wears(1, 10);
        x.wears(4, 10);
        x.wears(7, 10);
        x.wears(8, 9);
        due("crossing 0", x.hole(0, 0), 10);
        due("crossing 1", x.hole(1, 0), 39);
        due("crossing 2", x.hole(2, 0), 9);
        due("no hole", x.hole(1, 1), 0);
        x.wears(8, 10);
        due("hole", x.hole(1, 1), 1);
        x.wears(9, 7);
        x.wears(5, 1);
        x.wears(2, 2);
        due("crossing 2", x.hole(2, 0), 20);
        due("no such crossing", x.hole(3, 2), -1);
        due("no such crossing", x.hole(-1, 0), -1);
        due("other", x.hole(2, 2), -2);
        due("other", x.hole(2, -1), -2);
    }

    private static void weakest() {
        about("promise 23");
        SmallerInTheShop x = new SmallerInTheShop();
        due("of several the least", x.weakest(0), 0);
        due("nothing worn", x.weakest(1), 0);
        due("no holes", x.weakest(2), 0);
        x.wears(8, 30);
        due("1 and 2 alike", x.weakest(0), 1);
        x.wears(9, 10);
        due("2", x.weakest(0), 2);
        due("40", x.weakest(1), 40);
        due("a hole", x.weakest(2), 4);
        x.wears(3, 99);
        due("0", x.weakest(0), 0);
        due("two holes", x.weakest(2), 5);
        due("other", x.weakest(3), -2);
        due("other", x.weakest(-1), -2);
    }

    private static void dueWind(SmallerInTheShop x, int t, long above, long below) {
        due("above the line", x.wind(t, 0), above);
        due("below the line", x.wind(t, 1), below);
    }

    private static void wind() {
        about("promise 24");
        SmallerInTheShop x = new SmallerInTheShop();
        dueWind(x, 20, 1, 1);
        tellRow(x, 20);
        dueWind(x, 2, 1, 2);
        dueWind(x, 20, 19, 20);
        tellRow(x, 21);
        dueWind(x, 20, 1, 20);
        tellRow(x, 20, 41);
        dueWind(x, 3, 4, 9);
        tellRow(x, 23, 43);
        x.cover(3);
        // the back of 3 is out if the wind takes it over, and its row is left above
        dueWind(x, 3, 2, 9);
        x.cover(0);
        tellRow(x, 20, 10);
        dueWind(x, 4, 3, 16);
        x.cover(7);
        tellRow(x, 10);
        dueWind(x, 6, 1, 1);
        due("the row stays", x.count(6), 1);
        x.cover(0);
        tellRow(x, 10, 10, 10, 40);
        due("four folds", x.wind(20, 1) > 1 ? 1 : 0, 1);
        x.row(40);
        due("five told", x.wind(2, 9), REFUSED + 3);
        tellRow(x, 40, 40);
        due("can't be made", x.wind(2, 0), REFUSED + 3);
        tellRow(x, 44);
        due("no such way", x.wind(2, 0), REFUSED + 3);
        due("odds below", x.wind(1, 9), REFUSED + 4);
        due("odds above", x.wind(21, 9), REFUSED + 6);
        tellRow(x, 40);
        due("part", x.wind(2, 2), REFUSED + 2);
        due("part", x.wind(2, -1), REFUSED + 2);
        due("refusals -3", x.count(13), 3);
        x.fold(2, 1);
        x.clear();
        dueWind(x, 2, 0, 1);
    }

    private static void mean() {
        about("promise 25");
        SmallerInTheShop x = new SmallerInTheShop();
        int[][] cases = {{0, 0, 1}, {7, 7, 10}, {15, 3, 2}, {10, 1, 1}, {98, 49, 5}, {90, 9, 1}};
        for (int[] c : cases) {
            x.wears(0, c[0]);
            due("above, worn " + c[0], x.mean(0), c[1]);
            due("below, worn " + c[0], x.mean(1), c[2]);
        }
        for (int c = 0; c < 10; c++) {
            x.wears(c, 99);
        }
        due("all worn out", x.mean(0), 99);
        due("part", x.mean(2), REFUSED + 2);
        due("part", x.mean(-1), REFUSED + 2);
        due("refusals", x.count(12), 2);
    }

    private static void whatIs() {
        about("promise 26");
        SmallerInTheShop x = new SmallerInTheShop();
        due("nothing told, nothing shut out", x.whatIs(0, 0), 63);
        due("nothing told, nothing shut out", x.whatIs(0, 1), 1023);
        x.turn(0, 3, 5);
        tellRow(x, 12, 8);
        due("v or s with 5", x.whatIs(0, 0), 12);
        due("s with 5", x.whatIs(0, 1), 32);
        x.row(9);
        due("unwhole", x.whatIs(0, 0), -3);
        x.row(3);
        due("s alone", x.whatIs(0, 0), 8);
        due("the row stays", x.count(6), 4);
        due("no figure of a plain one", x.whatIs(1, 1), 0);
        tellRow(x, 50, 7);
        due("t alone", x.whatIs(0, 0), 16);
        x.turn(0, 4, 5);
        due("t with any", x.whatIs(0, 1), 1023);
        tellRow(x, 0, 4);
        x.turn(0, 5, 6);
        due("o with 6", x.whatIs(0, 0), 32);
        due("5 or 6", x.whatIs(0, 1), 96);
        x.row(4);
        due("crease ahead of all", x.whatIs(10, 2), -1);
        due("what ahead of the row", x.whatIs(9, 2), -2);
        due("what ahead of the row", x.whatIs(9, -1), -2);
        due("unwhole", x.whatIs(9, 1), -3);
    }

    private static void row() {
        about("promise 27");
        SmallerInTheShop x = new SmallerInTheShop();
        due("row(0)", x.row(0), 1);
        due("row(99)", x.row(99), 2);
        due("row(100)", x.row(100), -6);
        due("row(-1)", x.row(-1), -4);
        for (int i = 3; i <= 16; i++) {
            due("row " + i, x.row(i), i);
        }
        due("row 17", x.row(0), -6);
        due("below comes ahead of room", x.row(-1), -4);
        due("16 told", x.count(6), 16);
    }

    private static void judge() {
        about("promise 28");
        SmallerInTheShop x = new SmallerInTheShop();
        due("nothing told", x.judge(), -9);
        tellRow(x, 20, 10, 41);
        due("all can be made", x.judge(), -9);
        due("the row has none", x.count(6), 0);
        tellRow(x, 20, 30, 10);
        due("no line 3 then", x.judge(), 1);
        due("the row has none", x.count(6), 0);
        tellRow(x, 14);
        due("no such way", x.judge(), 0);
        tellRow(x, 30, 30);
        due("no line 3 then", x.judge(), 1);
        tellRow(x, 33, 22, 11, 40, 10);
        due("shut then", x.judge(), 4);
        tellRow(x, 9);
        due("line 0", x.judge(), 0);
        tellRow(x, 50);
        due("line 5", x.judge(), 0);
        due("nothing changed", x.count(0) + x.count(1), 0);
        x.fold(4, 0);
        tellRow(x, 10, 40);
        due("from now", x.judge(), 1);
    }

    private static void clear() {
        about("promise 29");
        SmallerInTheShop x = new SmallerInTheShop();
        due("none", x.clear(), 0);
        tellRow(x, 1, 2, 3);
        due("three", x.clear(), 3);
        due("none", x.clear(), 0);
        due("none", x.count(6), 0);
    }

    private static void lots() {
        about("promise 30");
        SmallerInTheShop x = new SmallerInTheShop();
        // every crease is folded once behind all folds, each with 3
        due("one map", x.lots(1, 0, 0), 30);
        due("twenty maps", x.lots(20, -77, 0), 600);
        // with seed 0: line 4 under, line 1 way 3, line 2 way 2, line 1 way 3: crease 6 is a mountain, faces out
        due("cover inside", x.lots(1, 0, 1), 0);
        x.turn(6, 2, 9);
        due("crease 6 on the mountain", x.lots(1, 0, 0), 39);
        x.turn(3, 2, 9);
        x.turn(4, 2, 9);
        x.turn(2, 2, 9);
        due("creases 6, 3, 4, 2 on the mountain, each by its draw", x.lots(1, 0, 0), 66);
        x.turn(3, 0, 0);
        x.turn(4, 0, 0);
        x.turn(2, 0, 0);
        x.turn(6, 1, 9);
        due("crease 6 on the mountain", x.lots(1, 0, 0), 30);
        due("nothing changed", x.count(0) + x.count(1), 0);
        x.fold(2, 0);
        x.fold(1, 1);
        x.fold(4, 1);
        due("shut", x.lots(20, 5, 0), 0);
        due("shut with cover out", x.lots(20, 5, 1), 20);
        x.cover(5);
        due("shut with cover inside", x.lots(20, 5, 1), 0);
        due("below", x.lots(0, 0, 2), -4);
        due("above", x.lots(21, 0, 2), -6);
        due("other", x.lots(20, 0, 2), -2);
        due("other", x.lots(20, 0, -1), -2);
    }

    private static void imageAndOn() {
        about("promise 31");
        SmallerInTheShop x = new SmallerInTheShop();
        due("no image", x.on(), -3);
        x.turn(2, 5, 4);
        x.wears(2, 44);
        x.cover(6);
        x.fold(2, 0);
        x.fold(4, 1);
        due("image", x.image(), 2);
        x.row(3);
        x.letter('o');
        x.fold(1, 0);
        x.turn(2, 1, 1);
        x.wears(2, 1);
        x.cover(0);
        about("promise 32");
        due("on", x.on(), 2);
        due("width", x.wad(0), 2);
        due("kind and figure", x.turn(2, 5, 4), 54);
        due("worn", x.crease(2, 2), 44);
        due("cover", x.count(3), 6);
        due("the row is not of it", x.count(6), 1);
        due("letters are not of it", x.count(7), 1);
        due("refusals are not of it", x.count(13), 1);
        due("folds of it can be opened", x.opens(), 1);
        due("and again", x.opens(), 0);
        due("flat", x.wad(3), 255);
        x.fold(1, 2);
        x.fold(2, 3);
        x.fold(1, 1);
        due("it can be gone back to twice", x.on(), 2);
        due("opened", x.opens(), 1);
        due("1 over 2 as then", x.over(1, 2), 1);
        due("a newer image", x.image(), 1);
        x.opens();
        due("on from the newer", x.on(), 1);
    }

    private static void count() {
        about("promise 33");
        SmallerInTheShop x = new SmallerInTheShop();
        x.fold(2, 1);
        x.cover(5);
        x.row(1);
        x.letter('f');
        int[] want = {1, 2, 18, 5, 4, 2, 1, 1, -9, -9, -9, 0, 0, 0, 0, 0, 0, -9};
        for (int what = 0; what < want.length; what++) {
            due("count(" + what + ")", x.count(what), want[what]);
        }
        x.fold(3, 0);
        x.fold(1, 4);
        x.fold(1, 5);
        x.on();
        x.row(-1);
        x.row(100);
        x.mean(3);
        int[] refused = {1, 3, 1, 1, 0, 1};
        for (int i = 0; i < 6; i++) {
            due("refusals -" + (i + 1), x.count(11 + i), refused[i]);
        }
        due("count(-1)", x.count(-1), -9);
        due("no refusal by count", x.count(12), 3);
    }

    private static void extremes() {
        about("any numbers");
        int[] ends = {Integer.MIN_VALUE, Integer.MIN_VALUE + 1, -1, 0, 1, Integer.MAX_VALUE - 1, Integer.MAX_VALUE};
        for (int a : ends) {
            for (int b : ends) {
                SmallerInTheShop x = new SmallerInTheShop();
                x.crease(a, b);
                x.panel(a, b);
                x.fold(a, b);
                x.wears(a, b);
                x.turn(a, b, b);
                x.cover(a);
                x.hurts(a, b, a);
                x.over(a, b);
                x.up(a, b, a, b);
                x.most(a, b, a);
                x.lasts(a, b);
                x.tape(a, b);
                x.first(a, b, b, a);
                x.hole(a, b);
                x.wind(a, b);
                x.whatIs(a, b);
                x.lots(a, b, a);
                x.count(a);
                x.letter(a);
                x.row(a);
                x.shut(a);
                x.ways(a);
                x.wad(a);
                x.weakest(a);
                x.mean(a);
                due("still flat", x.count(0), a == 1 && (b == 0 || b == 1) ? 1 : 0);
            }
        }
    }
}
