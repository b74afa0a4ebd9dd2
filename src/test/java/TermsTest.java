/** The boundary cases that the document's terms name for the map, its folds and its letters, each by itself. */
public final class TermsTest extends Due {
    private static final int MOUNTAIN = 1;
    private static final int VALLEY = 2;
    private static final int C = 0;
    private static final int M = 1;
    private static final int V = 2;
    private static final int S = 3;
    private static final int T = 4;
    private static final int O = 5;

    public static void main(String[] args) {
        panelsLieInTwoRowsOfFour();
        creasesLieBetweenTheirPanels();
        linesAreThereByWidthAndHeight();
        widthsBehindFolds();
        cellsAreCountedFromTheFirst();
        layersAreTurnedOver();
        readAtBothEnds();
        coverIsOutAtBothEnds();
        shutMeansOneCell();
        sidesByFaceAndWay();
        onlyFlatCreasesAreFolded();
        wornNinetyNineAtMost();
        effortIsByWornAhead();
        sprungAtJustTen();
        softIsHalfCut();
        figuresCountOnOneSide();
        openedIsTheLast();
        nothingToBeOpened();
        wornStaysWhenOpened();
        noLetterAtAll();
        theFirstLetterThatCannotGoOn();
        theEndIfSomethingLacks();
        ninetySixLetters();
        formComesAheadOfSense();
        numbersOutOfRange();
        noSuchLineThen();
        openedMoreThanFolded();
        withAFaultNothingComes();
        faultsAreNoRefusals();
        end();
    }

    private static void panelsLieInTwoRowsOfFour() {
        about("PANEL p in row p by 4, cut, column p modulo 4");
        SmallerInTheShop x = new SmallerInTheShop();
        dueEach("column", p -> x.panel(p, 0), 0, 1, 2, 3, 0, 1, 2, 3);
        dueEach("row", p -> x.panel(p, 1), 0, 0, 0, 0, 1, 1, 1, 1);
    }

    private static void creasesLieBetweenTheirPanels() {
        about("3 times the row, and c: between columns c and c and 1; 6 and c: in column c");
        SmallerInTheShop x = new SmallerInTheShop();
        dueEach("creases along the line behind", line -> x.hurts(line + 1, 0, 1), 1 + 8, 2 + 16, 4 + 32, 64 + 128 + 256 + 512);
        // What went over is face down, so its creases go the other way in the next fold.
        SmallerInTheShop rows = folded(40, 10);
        due("crease 0 in the row that went over", rows.crease(0, 3), MOUNTAIN);
        due("crease 3 in the row that lay still", rows.crease(3, 3), VALLEY);
        for (int line = 1; line <= 3; line++) {
            SmallerInTheShop columns = folded(10 * line, 40);
            for (int c = 0; c < 4; c++) {
                due("crease " + (6 + c) + " behind line " + line, columns.crease(6 + c, 3), c < line ? MOUNTAIN : VALLEY);
            }
        }
    }

    private static void linesAreThereByWidthAndHeight() {
        about("LINES 1, 2, 3 are there below W, LINE 4 if H is 2");
        int[][] toWidth = {{20, 10}, {20}, {10}, {}};
        for (int width = 1; width <= 4; width++) {
            for (int height = 1; height <= 2; height++) {
                SmallerInTheShop x = folded(toWidth[width - 1]);
                if (height == 1) {
                    x.fold(4, 0);
                }
                due("W", x.wad(0), width);
                due("H", x.wad(1), height);
                for (int line = -1; line <= 6; line++) {
                    boolean there = line == 4 ? height == 2 : line >= 1 && line < width;
                    String name = "line " + line + " at " + width + " by " + height;
                    due(name, x.hurts(line, 0, 0) > 0 ? 1 : 0, there ? 1 : 0);
                    due(name, x.fold(line, 4), there ? -2 : -1);
                }
            }
        }
    }

    private static void widthsBehindFolds() {
        about("W, H are what the PANELS take");
        for (int way = 0; way < 4; way++) {
            due("4 at line 1", folded(10 + way).wad(0), 3);
            due("4 at line 2", folded(20 + way).wad(0), 2);
            due("4 at line 3", folded(30 + way).wad(0), 3);
            due("3 at line 1", folded(10, 10 + way).wad(0), 2);
            due("3 at line 2", folded(30, 20 + way).wad(0), 2);
            due("2 at line 1", folded(20, 10 + way).wad(0), 1);
            due("W by line 4", folded(40 + way).wad(0), 4);
            due("H by line 4", folded(40 + way).wad(1), 1);
            due("H by line 2", folded(20 + way).wad(1), 2);
        }
    }

    private static void cellsAreCountedFromTheFirst() {
        about("cells are counted from the first column, row with a PANEL");
        SmallerInTheShop lesserOver = folded(10);
        dueEach("column", p -> lesserOver.panel(p, 0), 0, 0, 1, 2, 0, 0, 1, 2);
        SmallerInTheShop greaterOver = folded(12);
        dueEach("column", p -> greaterOver.panel(p, 0), 2, 2, 1, 0, 2, 2, 1, 0);
        SmallerInTheShop greaterUnder = folded(31);
        dueEach("column", p -> greaterUnder.panel(p, 0), 2, 1, 0, 0, 2, 1, 0, 0);
        SmallerInTheShop lesserUnder = folded(33);
        dueEach("column", p -> lesserUnder.panel(p, 0), 0, 1, 2, 2, 0, 1, 2, 2);
        SmallerInTheShop halves = folded(20);
        dueEach("column", p -> halves.panel(p, 0), 1, 0, 0, 1, 1, 0, 0, 1);
        SmallerInTheShop otherHalf = folded(22);
        dueEach("column", p -> otherHalf.panel(p, 0), 0, 1, 1, 0, 0, 1, 1, 0);
        for (int way = 0; way < 4; way++) {
            SmallerInTheShop rows = folded(40 + way);
            dueEach("row", p -> rows.panel(p, 1), 0, 0, 0, 0, 0, 0, 0, 0);
        }
    }

    private static void layersAreTurnedOver() {
        about("LAYERS of what goes are in opposite order, above all that was there or below it");
        // Behind 20 columns 0 and 1 have, from the lowest, 2 1 and 3 0.
        int[][] layers = {{1, 2, 3, 0}, {3, 0, 1, 2}, {2, 1, 0, 3}, {0, 3, 2, 1}};
        for (int way = 0; way < 4; way++) {
            SmallerInTheShop x = folded(20, 10 + way);
            for (int p = 0; p < 8; p++) {
                due("layer of " + p + " by way " + way, x.panel(p, 2), layers[way][p % 4]);
                due("above " + p + " by way " + way, x.panel(p, 5), 3 - layers[way][p % 4]);
            }
        }
        // Columns 0 and 1 (1 0 and 2) go under column 2: 1 0 come where nothing is.
        SmallerInTheShop beyond = folded(10, 21);
        dueEach("face", p -> beyond.panel(p, 3), 0, 1, 1, 0, 0, 1, 1, 0);
        dueEach("layer", p -> beyond.panel(p, 2), 0, 1, 0, 1, 0, 1, 0, 1);
        dueEach("column", p -> beyond.panel(p, 0), 1, 1, 0, 0, 1, 1, 0, 0);
        due("the lowest is over none", beyond.over(0, 1), 0);
        due("in another cell none is over", beyond.over(1, 2), 0);
    }

    private static void readAtBothEnds() {
        about("READ: uppermost face up, or LAYER 0 face down");
        due("alone face up", folded().wad(3), 255);
        due("alone face down (0, 1, 4, 5), the others are covered by backs", folded(30).wad(3), 1 + 2 + 16 + 32);
        due("faces outside", folded(21).wad(3), 255);
        due("faces inside", folded(20).wad(3), 0);
        // 0 3 2 1 from the lowest: 0 face down, 1 face up
        due("only the ends", folded(21, 10).wad(3), 1 + 2 + 16 + 32);
    }

    private static void coverIsOutAtBothEnds() {
        about("COVER is OUT: uppermost face down, or LAYER 0 face up");
        int[][] cases = {{0, 1}, {10, 1}, {11, 0}, {12, 1}, {13, 0}, {20, 1}, {21, 0}, {40, 1}, {41, 0}, {42, 1}, {43, 0}};
        for (int[] c : cases) {
            due("behind " + c[0], (c[0] == 0 ? folded() : folded(c[0])).wad(4), c[1]);
        }
        SmallerInTheShop inside = folded(10, 10);
        due("0 is neither uppermost nor lowest", inside.wad(4), 0);
        inside.cover(1);
        due("1 is uppermost, face down", inside.wad(4), 1);
        inside.cover(3);
        due("3 lies alone", inside.wad(4), 1);
        SmallerInTheShop facesOut = folded(21, 10);
        due("0 is the lowest, but face down", facesOut.wad(4), 0);
        facesOut.cover(1);
        due("1 is uppermost, but face up", facesOut.wad(4), 0);
    }

    private static void shutMeansOneCell() {
        about("SHUT: W and H are 1");
        due("W 1, H 2", folded(20, 11).ways(0), 0);
        due("W 2, H 1", folded(20, 40).ways(0), 0);
        due("W 1, H 1", folded(20, 11, 41).ways(0), 1);
        due("THICKNESS", folded(20, 11, 41).wad(2), 8);
        due("W times H", folded(20, 11, 41).count(4), 1);
    }

    private static void sidesByFaceAndWay() {
        about("going over, VALLEY, if face up, else MOUNTAIN; going under the other way round");
        int[] faceUp = {VALLEY, MOUNTAIN, VALLEY, MOUNTAIN};
        for (int way = 0; way < 4; way++) {
            due("face up by way " + way, folded(20 + way).crease(1, 3), faceUp[way]);
            // Behind 20 panels 0, 1 lie face down, 2, 3 face up.
            due("face up by way " + way, folded(20, 10 + way).crease(2, 3), faceUp[way]);
            due("face down by way " + way, folded(20, 10 + way).crease(0, 3), 3 - faceUp[way]);
        }
    }

    private static void onlyFlatCreasesAreFolded() {
        about("CREASES on both sides of the LINE, and flat, are folded");
        SmallerInTheShop x = folded(10);
        // Panels 0 and 1 lie in one cell now, only 1 and 2, 5 and 6 are flat across line 1.
        due("creases", x.hurts(1, 0, 1), 2 + 16);
        due("effort", x.fold(1, 0), 6);
        due("folded", x.count(2), 1 + 8 + 2 + 16);
        due("all others are flat", x.wad(6), 1023 - 27);
        due("crease 0 stays as it was", x.crease(0, 3), VALLEY);
        due("crease 0 is worn once", x.crease(0, 2), 1);
        due("crease 2 is not worn", x.crease(2, 2), 0);
    }

    /** One crease of a kind, worn so, is folded on a side; crease 4, beside it, is taped and wears by nothing. */
    private static void dueWorn(int kind, int side, int ahead, int behind) {
        SmallerInTheShop x = new SmallerInTheShop();
        x.turn(4, T, 0);
        x.turn(1, kind, 0);
        x.wears(1, ahead);
        int way = side == VALLEY ? 0 : 1;
        String name = "kind " + kind + ", side " + side + ", worn " + ahead;
        due(name + ", how much more", x.hurts(2, way, 2), behind - ahead);
        x.fold(2, way);
        due(name, x.crease(1, 2), behind);
        due(name + ", of all", x.count(1), behind);
    }

    private static void wornNinetyNineAtMost() {
        about("each is WORN more by what it WEARS so (99 at most)");
        for (int side = MOUNTAIN; side <= VALLEY; side++) {
            dueWorn(C, side, 97, 98);
            dueWorn(C, side, 98, 99);
            dueWorn(C, side, 99, 99);
            dueWorn(T, side, 98, 98);
            dueWorn(T, side, 99, 99);
        }
        int[][] twice = {{M, VALLEY}, {V, MOUNTAIN}, {S, MOUNTAIN}, {O, VALLEY}};
        for (int[] two : twice) {
            dueWorn(two[0], two[1], 96, 98);
            dueWorn(two[0], two[1], 97, 99);
            dueWorn(two[0], two[1], 98, 99);
            dueWorn(two[0], two[1], 99, 99);
        }
        dueWorn(O, MOUNTAIN, 95, 98);
        dueWorn(O, MOUNTAIN, 96, 99);
        dueWorn(O, MOUNTAIN, 97, 99);
        dueWorn(O, MOUNTAIN, 99, 99);
        SmallerInTheShop x = new SmallerInTheShop();
        for (int i = 0; i < 100; i++) {
            x.fold(1, 0);
            x.opens();
        }
        due("behind a hundred folds", x.crease(0, 2), 99);
    }

    private static void effortIsByWornAhead() {
        about("EFFORT by SIDE and WORN ahead");
        SmallerInTheShop x = new SmallerInTheShop();
        x.turn(1, S, 6);
        x.wears(1, 9);
        due("not sprung ahead of it, though behind it", x.fold(2, 0), 9 + 3);
        due("sprung behind it", x.crease(1, 5), 3);
        x.opens();
        due("sprung ahead of it", x.fold(2, 0), 3 + 3);
    }

    private static void sprungAtJustTen() {
        about("SPRUNG: with WORN 10 or more both as a MOUNTAIN's on the other SIDE");
        int[][] cases = {{0, 3, 8}, {9, 3, 8}, {10, 8, 3}, {11, 8, 3}, {99, 8, 3}};
        SmallerInTheShop x = new SmallerInTheShop();
        x.turn(9, S, 5);
        for (int[] c : cases) {
            x.wears(9, c[0]);
            due("on the mountain side with " + c[0], x.crease(9, 4), c[1]);
            due("on the valley side with " + c[0], x.crease(9, 5), c[2]);
        }
        dueWorn(S, MOUNTAIN, 9, 10);
        dueWorn(S, VALLEY, 9, 11);
        dueWorn(S, MOUNTAIN, 10, 12);
        dueWorn(S, VALLEY, 10, 11);
        x.turn(9, M, 5);
        due("a MOUNTAIN does not spring", x.crease(9, 4), 3);
    }

    private static void softIsHalfCut() {
        about("SOFT: half of a VALLEY's, cut; 1 more");
        int[] mountain = {1, 2, 2, 3, 3, 4, 4, 5, 5, 6};
        SmallerInTheShop x = new SmallerInTheShop();
        for (int figure = 0; figure <= 9; figure++) {
            x.turn(0, O, figure);
            due("on the mountain side with " + figure, x.crease(0, 4), mountain[figure]);
            due("on the valley side with " + figure, x.crease(0, 5), 1);
        }
        dueWorn(O, MOUNTAIN, 0, 3);
        dueWorn(O, VALLEY, 0, 2);
    }

    private static void figuresCountOnOneSide() {
        about("FIGURE (0 .. 9) more on one SIDE");
        int[][] cases = {{C, 3, 3, 3, 3}, {M, 3, 3, 3, 12}, {V, 3, 3, 12, 3}, {S, 3, 3, 3, 12}, {T, 7, 7, 7, 7}, {O, 1, 1, 6, 1}};
        SmallerInTheShop x = new SmallerInTheShop();
        for (int[] c : cases) {
            x.turn(5, c[0], 0);
            due("kind " + c[0] + ", 0, mountain", x.crease(5, 4), c[1]);
            due("kind " + c[0] + ", 0, valley", x.crease(5, 5), c[2]);
            x.turn(5, c[0], 9);
            due("kind " + c[0] + ", 9, mountain", x.crease(5, 4), c[3]);
            due("kind " + c[0] + ", 9, valley", x.crease(5, 5), c[4]);
        }
        int[][] wears = {{C, 1, 1}, {M, 1, 2}, {V, 2, 1}, {S, 1, 2}, {T, 0, 0}, {O, 3, 2}};
        for (int[] w : wears) {
            dueWorn(w[0], MOUNTAIN, 0, w[1]);
            dueWorn(w[0], VALLEY, 0, w[2]);
        }
    }

    private static void openedIsTheLast() {
        about("OPENED: the last FOLD that is not OPENED yet: PANELS lie as ahead of it, its CREASES are flat");
        SmallerInTheShop x = folded(20, 11, 43);
        due("43 is opened", x.opens(), 2);
        SmallerInTheShop two = folded(20, 11);
        for (int p = 0; p < 8; p++) {
            int panel = p;
            dueEach("panel " + p, what -> x.panel(panel, what), two.panel(p, 0), two.panel(p, 1), two.panel(p, 2), two.panel(p, 3));
        }
        due("its creases are flat", x.wad(6), 960);
        due("another fold", x.fold(4, 0), 12);
        due("40 is opened", x.opens(), 2);
        due("11 is opened", x.opens(), 1);
        due("only 1 and 4 are folded", x.count(2), 2 + 16);
        due("20 is opened", x.opens(), 0);
        dueEach("column", p -> x.panel(p, 0), 0, 1, 2, 3, 0, 1, 2, 3);
        dueEach("row", p -> x.panel(p, 1), 0, 0, 0, 0, 1, 1, 1, 1);
        dueEach("face", p -> x.panel(p, 3), 0, 0, 0, 0, 0, 0, 0, 0);
    }

    private static void nothingToBeOpened() {
        about("nothing to be OPENED");
        SmallerInTheShop x = new SmallerInTheShop();
        due("a new one", x.opens(), -3);
        x.fold(1, 0);
        due("one fold", x.opens(), 0);
        due("none is left", x.opens(), -3);
        due("none is left", x.opens(), -3);
        due("refusals", x.count(13), 3);
        due("width", x.wad(0), 4);
    }

    private static void wornStaysWhenOpened() {
        about("OPENED: WORN stays");
        SmallerInTheShop x = folded(20, 11);
        x.opens();
        x.opens();
        dueEach("worn", c -> x.crease(c, 2), 1, 1, 1, 1, 1, 1, 0, 0, 0, 0);
        due("kind told ahead of it stays, too", x.turn(2, M, 4), 0);
        x.fold(3, 0);
        x.opens();
        due("kind", x.crease(2, 0), M);
    }

    private static void noLetterAtAll() {
        about("at least one STATEMENT");
        SmallerInTheShop x = new SmallerInTheShop();
        due("no letter", x.map(), -1000);
        due("one statement", tell(x, "c0;"), 1);
        due("no letter again", x.map(), -1000);
        due("no statement, only its end", tell(x, ";"), -1000);
    }

    private static void theFirstLetterThatCannotGoOn() {
        about("FAULT kind 1: the place of the first letter with which no MAP can go on");
        String[] rights = {"k0c0;", "k9o9;", "w000;", "w999;", "f10;", "o;", "c0;", "c9;"};
        for (String right : rights) {
            for (int place = 0; place < right.length(); place++) {
                char[] signs = {0, ' ', '/', ':', 'a', 'u', (char) 128, (char) 255};
                for (char sign : signs) {
                    String text = "c1;" + right.substring(0, place) + sign + right.substring(place + 1);
                    due("'" + text + "' with " + (int) sign, tell(new SmallerInTheShop(), text), -1003 - place);
                }
            }
        }
        String[] texts = {"o;;", "f100;", "f1;", "c10;", "c;", "k10;", "k1c;", "k1c10;", "w1;", "w11;", "w1111;", "o1;", "O;", "K1c1;",
            "k1C1;", "kc11;", "1;", "cmvsto"};
        int[] places = {2, 3, 2, 2, 1, 2, 3, 4, 2, 3, 4, 1, 0, 0, 2, 1, 0, 1};
        for (int i = 0; i < texts.length; i++) {
            due("'" + texts[i] + "'", tell(new SmallerInTheShop(), texts[i]), -1000 - places[i]);
        }
    }

    private static void theEndIfSomethingLacks() {
        about("FAULT kind 1: the end, if something lacks");
        String[] rights = {"k0c0;", "w000;", "f10;", "o;", "c0;"};
        for (String right : rights) {
            for (int length = 1; length < right.length(); length++) {
                due("'" + right.substring(0, length) + "'", tell(new SmallerInTheShop(), right.substring(0, length)), -1000 - length);
                due("'o;' and it", tell(folded(10), "o;" + right.substring(0, length)), -1002 - length);
            }
            // Opening needs a fold, the others need none.
            due("whole", tell(folded(20), right), 1);
        }
    }

    private static void ninetySixLetters() {
        about("96 letters at most");
        String most = "c7;".repeat(31);
        SmallerInTheShop x = new SmallerInTheShop();
        due("96 letters", tell(x, most + "c5;"), 32);
        due("cover", x.count(3), 5);
        due("something lacks at 96", tell(x, most + "k0c"), -1096);
        due("the last letter is wrong", tell(x, most + "c00"), -1095);
        due("the last statement is not as it must be", tell(x, most + "c8;"), -2093);
        due("the 97th letter does not come", tell(x, most + "k0c0;"), -1096);
        due("it was refused, with the one behind it", x.count(16), 2);
        due("opened and folded", tell(x, "f10;o;".repeat(16)), 32);
    }

    private static void formComesAheadOfSense() {
        about("FAULT: kind 1, else kind 2");
        due("out of range, then a wrong letter", tell(new SmallerInTheShop(), "c8;c1;x"), -1006);
        due("nothing to be opened, then something lacks", tell(new SmallerInTheShop(), "o;c"), -1003);
        due("no such line, then the end", tell(new SmallerInTheShop(), "f99;f10"), -1007);
        due("the first of two that are not as they must be", tell(new SmallerInTheShop(), "c7;c8;o;"), -2003);
    }

    private static void numbersOutOfRange() {
        about("FAULT kind 2: a number out of range");
        for (int number = 0; number <= 9; number++) {
            due("panel " + number, tell(new SmallerInTheShop(), "c" + number + ";"), number < 8 ? 1 : -2000);
            due("line " + number, tell(new SmallerInTheShop(), "f" + number + "0;"), number >= 1 && number <= 4 ? 1 : -2000);
            due("way " + number, tell(new SmallerInTheShop(), "f1" + number + ";"), number < 4 ? 1 : -2000);
            due("crease " + number, tell(new SmallerInTheShop(), "k" + number + "c0;"), 1);
            due("crease " + number, tell(new SmallerInTheShop(), "w" + number + "00;"), 1);
        }
        SmallerInTheShop x = new SmallerInTheShop();
        due("least and greatest", tell(x, "w000;w999;k0m0;k9o9;"), 4);
        due("worn 0", x.wears(0, 5), 0);
        due("worn 99", x.wears(9, 5), 99);
        due("first digit, then second", tell(x, "w109;w290;"), 2);
        due("worn 9", x.crease(1, 2), 9);
        due("worn 90", x.crease(2, 2), 90);
        due("m 0", x.turn(0, 0, 0), 10);
        due("o 9", x.turn(9, 0, 0), 59);
    }

    private static void noSuchLineThen() {
        about("FAULT kind 2: no such LINE then");
        String[] texts = {"f20;f20;", "f20;f30;", "f10;f30;", "f30;f30;", "f40;f43;", "f20;f10;f10;", "f10;f10;f10;f10;", "f20;f10;f40;f40;"};
        int[] places = {4, 4, 4, 4, 4, 8, 12, 12};
        for (int i = 0; i < texts.length; i++) {
            due("'" + texts[i] + "'", tell(new SmallerInTheShop(), texts[i]), -2000 - places[i]);
        }
        due("it is there again when opened", tell(new SmallerInTheShop(), "f40;o;f40;"), 3);
        due("four folds", tell(new SmallerInTheShop(), "f10;f10;f10;f40;"), 4);
        due("from what there is now", tell(folded(20), "f20;"), -2000);
        due("from what there is now", tell(folded(20), "o;f20;"), 2);
    }

    private static void openedMoreThanFolded() {
        about("FAULT kind 2: nothing to be OPENED");
        due("at first", tell(new SmallerInTheShop(), "o;"), -2000);
        due("once more than folded", tell(new SmallerInTheShop(), "f10;f20;o;o;o;"), -2012);
        due("just as often as folded", tell(new SmallerInTheShop(), "f10;f20;o;o;"), 4);
        due("folds of now, too", tell(folded(20, 10), "o;o;"), 2);
        due("once more than folds of now", tell(folded(20, 10), "o;o;o;"), -2004);
    }

    private static void withAFaultNothingComes() {
        about("with a FAULT nothing comes, and the letters are no more");
        String[] tails = {"c8;", "f00;", "f24;", "f20;", "o;o;o;", "x", "c"};
        for (String tail : tails) {
            SmallerInTheShop x = folded(20);
            x.turn(3, V, 2);
            x.cover(4);
            due("a fault with " + tail, tell(x, "k3m5;w377;c2;f10;" + tail) < 0 ? 1 : 0, 1);
            due("kind and figure", x.turn(3, V, 2), 22);
            due("worn of all", x.count(1), 2);
            due("cover", x.count(3), 4);
            due("folds", x.count(0), 1);
            due("width", x.wad(0), 2);
            due("folded", x.count(2), 18);
            due("letters", x.count(7), 0);
            due("the next map is a new one", tell(x, "c3;"), 1);
            due("it can be opened as ahead of it", x.opens(), 0);
        }
    }

    private static void faultsAreNoRefusals() {
        about("the FAULT (nothing is counted)");
        SmallerInTheShop x = new SmallerInTheShop();
        tell(x, "");
        tell(x, "x");
        tell(x, "c9;");
        tell(x, "o;");
        tell(x, "f50;");
        dueEach("refusals", i -> x.count(11 + i), 0, 0, 0, 0, 0, 0);
    }
}
