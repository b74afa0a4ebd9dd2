import java.math.BigInteger;

/** The boundary cases of what is asked about a map (the document's second part), each by itself. */
public final class BoundariesTest extends Due {
    private static final int M = 1;
    private static final int V = 2;
    private static final int S = 3;
    private static final int T = 4;
    private static final int O = 5;
    private static final int[] SEEDS = {Integer.MIN_VALUE, Integer.MIN_VALUE + 1, -2147483392, -256, -1, 0, 1, 255, 256, 65536,
        1013904223, Integer.MAX_VALUE - 1, Integer.MAX_VALUE};

    public static void main(String[] args) {
        aWayOfNoFolds();
        aWayOfFourFolds();
        noneShutsIt();
        fewestFoldsAreNotLeastEffort();
        leastEffortThenLeastNumber();
        waysWithJustSoMany();
        pocketsOfUp();
        pocketsOfMost();
        setsOfMost();
        rowsOfLayers();
        layersByLeastEffort();
        holeAtJustForty();
        creasesOfCrossings();
        lastsFromOneToNinetyNine();
        lastsAskForAHoleMore();
        tapeMustMakeItMore();
        firstByOneOrderAlone();
        firstByALittle();
        weakestOfSeveral();
        windByLeastAndGreatestOdds();
        windByTheRow();
        windInLeastTerms();
        meanInLeastTerms();
        whatItIsByNoPair();
        whatItIsByPairs();
        rowFromNoneToFull();
        judgedFromNoneToFull();
        lotsByOneLine();
        lotsByTwoLines();
        lotsWithoutTheSign();
        lotsFromOneToTwenty();
        imageHoldsNeitherRowNorLettersNorRefusals();
        imageIsTakenAnew();
        countOfAnotherWhat();
        refusalsOfLongs();
        fiveHundredAndTwelveCalls();
        end();
    }

    private static void aWayOfNoFolds() {
        about("a WAY is a row of FOLDS, none too");
        SmallerInTheShop coverOut = folded(20, 11, 41);
        dueEach("shut", coverOut::shut, 0, 0, 0);
        dueEach("ways", coverOut::ways, 1, 0, 0, 0, 0);
        tellRow(coverOut, 4, 7, 6, 5, 1, 2, 3, 0);
        due("layers", coverOut.layers(), 0);
        // From the lowest 4 7 6 5 1 2 3 0, faces of 4 and 0 outside.
        SmallerInTheShop facesOut = folded(21, 10, 40);
        due("read", facesOut.wad(3), 17);
        dueEach("up", what -> facesOut.up(0, 4, 1, what), 0, 0);
        dueEach("most", what -> facesOut.most(17, 1, what), 2, 0);
        SmallerInTheShop flat = new SmallerInTheShop();
        dueEach("up", what -> flat.up(0, 7, 8, what), 0, 0);
        dueEach("most", what -> flat.most(255, 8, what), 8, 0);
    }

    private static void aWayOfFourFolds() {
        about("100 times what there is so far and 10 times the LINE and the way");
        SmallerInTheShop x = new SmallerInTheShop();
        // Rolled up three times from the left: no three folds lay it so.
        tellRow(x, 3, 1, 0, 2, 6, 4, 5, 7);
        due("layers", x.layers(), 10101040);
        tellRow(x, 7, 5, 4, 6, 2, 0, 1, 3);
        due("layers the other way round", x.layers(), 10101042);
        due("behind a fold", layersBehind(10), 101042);
        due("behind two", layersBehind(10, 10), 1042);
        due("behind three", layersBehind(10, 10, 10), 42);
    }

    private static int layersBehind(int... folds) {
        SmallerInTheShop x = folded(folds);
        tellRow(x, 7, 5, 4, 6, 2, 0, 1, 3);
        return x.layers();
    }

    private static void noneShutsIt() {
        about("-9 where there is none");
        SmallerInTheShop coverInside = folded(21);
        dueEach("cover inside for good", coverInside::shut, -9, -9, -9);
        dueEach("ways", coverInside::ways, 0, 0, 0, 0, 0);
        SmallerInTheShop facesInside = folded(20);
        dueEach("faces inside for good", what -> facesInside.up(0, 7, 8, what), -9, -9);
        SmallerInTheShop flat = new SmallerInTheShop();
        dueEach("never both out of eight layers", what -> flat.up(0, 7, 1, what), -9, -9);
        SmallerInTheShop shut = folded(21, 10, 40);
        dueEach("shut with another panel outside", what -> shut.up(0, 1, 8, what), -9, -9);
        dueEach("refusals", i -> shut.count(11 + i), 0, 0, 0, 0, 0, 0);
    }

    private static void fewestFoldsAreNotLeastEffort() {
        about("SHUT BEST by least EFFORT, SHUT SOONEST by fewest FOLDS");
        SmallerInTheShop x = new SmallerInTheShop();
        dueEach("all alike", x::shut, 201141, 30, 3);
        // In three folds one of the creases 0 and 2 goes to the mountain side.
        x.turn(0, V, 9);
        x.turn(2, V, 9);
        dueEach("four folds are less effort", x::shut, 10111041, 30, 3);
        x.fold(1, 0);
        dueEach("three are left", x::shut, 111041, 24, 3);
        x.fold(1, 1);
        dueEach("two are left", x::shut, 1041, 18, 2);
        x.fold(1, 0);
        dueEach("one is left", x::shut, 41, 12, 1);
        x.fold(4, 1);
        dueEach("none is left", x::shut, 0, 0, 0);
    }

    private static void leastEffortThenLeastNumber() {
        about("of several the first: the least number");
        SmallerInTheShop x = new SmallerInTheShop();
        // 11 and 21 and 30 leave 0 and 1 read in six cells by the same effort.
        due("the least number", x.up(0, 1, 6, 0), 11);
        x.turn(0, V, 1);
        due("one more effort for 11", x.up(0, 1, 6, 0), 21);
        x.turn(1, V, 1);
        due("one more effort for 21", x.up(0, 1, 6, 0), 30);
        due("effort", x.up(0, 1, 6, 1), 6);
        x.turn(2, M, 1);
        due("by 31 crease 2 goes to its mountain side", x.up(0, 1, 6, 0), 31);
        x.turn(5, V, 1);
        due("all alike again", x.up(0, 1, 6, 0), 11);
        due("effort", x.up(0, 1, 6, 1), 7);
    }

    private static void waysWithJustSoMany() {
        about("WAYS with n FOLDS (0 .. 4)");
        dueEach("from flat", new SmallerInTheShop()::ways, 0, 0, 0, 24, 576);
        dueEach("two folds left", folded(20)::ways, 0, 0, 8, 0, 0);
        dueEach("one fold left", folded(20, 11)::ways, 0, 2, 0, 0, 0);
        dueEach("shut, cover inside", folded(20, 11, 40)::ways, 0, 0, 0, 0, 0);
        SmallerInTheShop x = new SmallerInTheShop();
        due("below", x.ways(-1), -4);
        due("above", x.ways(5), -6);
    }

    private static void pocketsOfUp() {
        about("UP with W times H m or less (1 .. 8)");
        SmallerInTheShop x = new SmallerInTheShop();
        int[][] want = {{214011, 30}, {2110, 18}, {2110, 18}, {21, 6}, {21, 6}, {11, 6}, {11, 6}, {0, 0}};
        for (int m = 1; m <= 8; m++) {
            int pocket = m;
            dueEach("0 and 1 in " + m, what -> x.up(0, 1, pocket, what), want[m - 1]);
            dueEach("1 and 0 in " + m, what -> x.up(1, 0, pocket, what), want[m - 1]);
        }
        due("0", x.up(0, 1, 0, 0), -4);
        due("9", x.up(0, 1, 9, 0), -6);
    }

    private static void pocketsOfMost() {
        about("MOST with W times H m or less");
        SmallerInTheShop x = new SmallerInTheShop();
        int[] noneTold = {201040, 2010, 1040, 20, 20, 10, 10, 0};
        int[][] allTold = {{2, 211040}, {4, 2110}, {6, 1141}, {8, 21}, {8, 21}, {8, 11}, {8, 11}, {8, 0}};
        for (int m = 1; m <= 8; m++) {
            int pocket = m;
            dueEach("none told in " + m, what -> x.most(0, pocket, what), 0, noneTold[m - 1]);
            dueEach("all told in " + m, what -> x.most(255, pocket, what), allTold[m - 1]);
        }
        due("0", x.most(255, 0, 0), -4);
        due("9", x.most(255, 9, 0), -6);
    }

    private static void setsOfMost() {
        about("MOST of told PANELS (bits)");
        SmallerInTheShop x = folded(30);
        // 0, 1, 4 and 5 lie alone, face down; the others show their backs.
        for (int p = 0; p < 8; p++) {
            due("panel " + p, x.most(1 << p, 8, 0), p % 4 < 2 ? 1 : 0);
        }
        due("set 255", x.most(255, 8, 0), 4);
        due("set 0", x.most(0, 8, 0), 0);
        due("set 256", x.most(256, 8, 0), -6);
        due("set -1", x.most(-1, 8, 0), -4);
    }

    private static void rowsOfLayers() {
        about("LAYERS: -9 also if the ROW does not tell all eight");
        SmallerInTheShop x = new SmallerInTheShop();
        due("none", x.layers(), -9);
        int[] right = {4, 7, 6, 5, 1, 2, 3, 0};
        for (int told = 1; told <= 16; told++) {
            x.row(right[(told - 1) % 8]);
            due(told + " told", x.layers(), told == 8 ? 201141 : -9);
        }
        tellRow(x, 99, 99, 99, 99, 99, 99, 99, 99, 99);
        tellRow(x, right);
        due("what the row had is no more", x.layers(), 201141);
        for (int i = 0; i < 7; i++) {
            int[] lacking = right.clone();
            lacking[i] = right[i + 1];
            tellRow(x, lacking);
            due(right[i + 1] + " twice, " + right[i] + " lacks", x.layers(), -9);
        }
        tellRow(x, 3, 1, 0, 2, 6, 4, 5, 7);
        due("all eight", x.layers(), 10101040);
        tellRow(x, 3, 1, 2, 2, 6, 4, 5, 7);
        due("2 twice, 0 lacks", x.layers(), -9);
        tellRow(x, 4, 7, 6, 5, 1, 2, 3, 8);
        due("8 is no panel", x.layers(), -9);
        tellRow(x, 99, 7, 6, 5, 1, 2, 3, 0);
        due("99 is no panel", x.layers(), -9);
        tellRow(x, 4, 7, 6, 5, 1, 2, 0, 0);
        due("0 twice", x.layers(), -9);
        tellRow(x, 0, 1, 2, 3, 7, 6, 5, 4);
        due("folded like a fan by columns", x.layers(), 10111043);
        tellRow(x, 0, 1, 2, 3, 4, 5, 6, 7);
        due("can't be had", x.layers(), -9);
        due("the row stays", x.count(6), 8);
    }

    private static void layersByLeastEffort() {
        about("LAYERS: the WAY of least EFFORT, of several the first");
        SmallerInTheShop x = new SmallerInTheShop();
        tellRow(x, 3, 1, 0, 2, 6, 4, 5, 7);
        x.turn(0, M, 1);
        // The same order with all creases on their other sides, turned over by the last fold.
        due("crease 0 on the mountain side", x.layers(), 11111143);
        x.turn(1, V, 1);
        due("alike", x.layers(), 10101040);
    }

    private static void holeAtJustForty() {
        about("HOLE: 40 or more");
        SmallerInTheShop x = new SmallerInTheShop();
        for (int k = 0; k < 3; k++) {
            x.wears(k, 39);
            dueEach("39 at " + k, what -> x.hole(x.weakest(0), what), 39, 0);
            due("bits", x.weakest(2), 0);
            x.wears(k, 40);
            dueEach("40 at " + k, what -> x.hole(x.weakest(0), what), 40, 1);
            due("bits", x.weakest(2), 1 << k);
            x.wears(k, 41);
            due("41 at " + k, x.hole(k, 1), 1);
            x.wears(k, 0);
        }
        for (int c = 0; c < 10; c++) {
            x.wears(c, 99);
        }
        due("all worn out", x.hole(2, 0), 396);
        due("bits", x.weakest(2), 7);
    }

    private static void creasesOfCrossings() {
        about("CREASES k, 3 and k, 6 and k, 7 and k");
        int[] crossings = {1, 2, 4, 1, 2, 4, 1, 3, 6, 4};
        SmallerInTheShop x = new SmallerInTheShop();
        for (int c = 0; c < 10; c++) {
            x.wears(c, 40);
            due("holes by crease " + c, x.weakest(2), crossings[c]);
            x.wears(c, 0);
        }
    }

    private static void dueLasts(int worn, int taped, int want) {
        SmallerInTheShop x = new SmallerInTheShop();
        x.wears(6, worn);
        if (taped >= 0) {
            x.turn(taped, T, 0);
        }
        due("line 1 with " + worn + " at crossing 0", x.lasts(1, 0), want);
    }

    private static void lastsFromOneToNinetyNine() {
        about("LASTS 1 .. 98; 99 if not by then");
        dueLasts(39, -1, 1);
        dueLasts(38, -1, 1);
        dueLasts(37, -1, 2);
        dueLasts(36, -1, 2);
        dueLasts(35, -1, 3);
        dueLasts(0, -1, 20);
        // By one a time 40 times are the most: what wears at all makes a hole by then.
        dueLasts(39, 3, 1);
        dueLasts(38, 3, 2);
        dueLasts(0, 3, 40);
        dueLasts(0, 0, 40);
        SmallerInTheShop x = new SmallerInTheShop();
        x.turn(0, T, 0);
        x.turn(3, T, 0);
        due("nothing wears", x.lasts(1, 0), 99);
        x.turn(0, O, 0);
        due("by two a time", x.lasts(1, 0), 20);
        due("by three a time", x.lasts(1, 1), 14);
    }

    private static void lastsAskForAHoleMore() {
        about("LASTS: first a HOLE more than now");
        SmallerInTheShop x = new SmallerInTheShop();
        x.wears(3, 40);
        due("the hole that is there is none more", x.lasts(1, 0), 99);
        due("another crossing", x.lasts(2, 0), 20);
        x.wears(3, 39);
        due("one of 39", x.lasts(1, 0), 1);
        x.wears(3, 40);
        x.wears(5, 39);
        due("crossing 2 by the rows, beside the hole at 0", x.lasts(4, 0), 1);
        x.wears(4, 40);
        x.wears(5, 40);
        due("holes at all crossings", x.lasts(4, 0), 99);
        SmallerInTheShop y = folded(20);
        due("from now, both lines left", y.lasts(1, 0), 20);
        // Creases 1 and 4, folded now, are worn by one each: crossing 1 has 2 already.
        due("from now, by the rows", y.lasts(4, 0), 19);
        due("nothing is folded by it", y.count(0), 1);
        due("nothing is worn by it", y.count(1), 2);
    }

    private static void tapeMustMakeItMore() {
        about("TAPE: more than as it is, of several the least; -9");
        SmallerInTheShop x = new SmallerInTheShop();
        x.wears(6, 38);
        due("behind one as it is, behind two with tape", x.tape(1, 0), 0);
        x.wears(6, 39);
        due("behind one with any tape", x.tape(1, 0), -9);
        x.turn(3, T, 0);
        due("never with tape on 0, too", x.tape(1, 0), 0);
        x.turn(0, T, 0);
        due("never as it is", x.tape(1, 0), -9);
        x.turn(0, 0, 0);
        x.turn(3, 0, 0);
        x.wears(6, 0);
        x.wears(0, 20);
        due("WORN as it is: tape on 0 or 3 is alike", x.tape(1, 0), 0);
        x.turn(3, V, 0);
        due("on the mountain 3 wears more", x.tape(1, 1), 3);
        due("in the valley they are alike", x.tape(1, 0), 0);
        due("kinds stay", x.crease(3, 0), V);
    }

    private static void firstByOneOrderAlone() {
        about("FIRST: if only one of these orders can be made, that one; -9 if neither can be made");
        SmallerInTheShop x = new SmallerInTheShop();
        due("3 ahead of 1", x.first(1, 0, 3, 0), 1);
        due("3 ahead of 1", x.first(3, 0, 1, 0), 0);
        due("3 ahead of 2", x.first(2, 0, 3, 0), 1);
        due("both orders, 12 and 18", x.first(1, 0, 2, 0), 0);
        due("line 4 twice", x.first(4, 0, 4, 3), -9);
        due("line 3 twice", x.first(3, 0, 3, 3), -9);
        due("line 2 twice", x.first(2, 0, 2, 3), -9);
        // 1 can be made twice, by the same effort either way round.
        due("line 1 twice", x.first(1, 0, 1, 0), -9);
        SmallerInTheShop y = folded(20, 11);
        due("only line 4 is there", y.first(4, 0, 1, 0), -9);
        due("only line 4 is there", y.first(1, 0, 4, 0), -9);
        SmallerInTheShop shut = folded(20, 11, 41);
        due("shut", shut.first(1, 0, 4, 0), -9);
        dueEach("refusals", i -> shut.count(11 + i), 0, 0, 0, 0, 0, 0);
    }

    private static void firstByALittle() {
        about("FIRST: 0, 1; -9 alike");
        SmallerInTheShop x = new SmallerInTheShop();
        due("alike", x.first(2, 0, 4, 0), -9);
        // 2 ahead folds crease 1 to a valley, behind 40 it goes to the mountain side.
        x.turn(1, V, 1);
        due("one less in the order told", x.first(2, 0, 4, 0), 0);
        due("one less in the other order", x.first(4, 0, 2, 0), 1);
        x.turn(1, M, 1);
        due("one less in the other order", x.first(2, 0, 4, 0), 1);
        x.turn(1, M, 0);
        due("alike", x.first(2, 0, 4, 0), -9);
    }

    private static void weakestOfSeveral() {
        about("WEAKEST: most WORN together, of several the least");
        SmallerInTheShop x = new SmallerInTheShop();
        dueEach("nothing worn", x::weakest, 0, 0, 0);
        x.wears(2, 1);
        dueEach("the last", x::weakest, 2, 1, 0);
        x.wears(1, 1);
        dueEach("the last two alike", x::weakest, 1, 1, 0);
        x.wears(0, 1);
        dueEach("all alike", x::weakest, 0, 1, 0);
        x.wears(7, 1);
        dueEach("the first two alike", x::weakest, 0, 2, 0);
        x.wears(8, 39);
        dueEach("the middle one", x::weakest, 1, 41, 6);
    }

    private static void dueWind(SmallerInTheShop x, int t, long above, long below) {
        due("above the line with " + t, x.wind(t, 0), above);
        due("below the line with " + t, x.wind(t, 1), below);
    }

    private static void windByLeastAndGreatestOdds() {
        about("WIND: odds 1 in t (2 .. 20)");
        SmallerInTheShop x = new SmallerInTheShop();
        tellRow(x, 12);
        due("1", x.wind(1, 0), REFUSED + 4);
        dueWind(x, 2, 1, 2);
        dueWind(x, 3, 2, 3);
        dueWind(x, 19, 18, 19);
        dueWind(x, 20, 19, 20);
        due("21", x.wind(21, 0), REFUSED + 6);
        // Only over, under, over, under leave the back of 0 outside by lines 1, 1, 1, 4.
        tellRow(x, 10, 10, 10, 40);
        dueWind(x, 2, 1, 16);
        dueWind(x, 20, 361, 160000);
        tellRow(x, 10, 11, 10, 41);
        dueWind(x, 2, 1, 16);
        dueWind(x, 20, 130321, 160000);
        tellRow(x, 11, 10, 11, 40);
        dueWind(x, 2, 1, 16);
        dueWind(x, 20, 1, 160000);
    }

    private static void windByTheRow() {
        about("WIND: a ROW tells FOLDS; -3 if they can't be made, or are more than 4");
        SmallerInTheShop x = new SmallerInTheShop();
        dueWind(x, 2, 1, 1);
        tellRow(x, 21, 11);
        dueWind(x, 3, 2, 9);
        x.clear();
        dueWind(x, 3, 1, 1);
        int[] cannot = {0, 9, 4, 14, 19, 24, 34, 44, 50, 99};
        for (int number : cannot) {
            tellRow(x, number);
            due("row " + number, x.wind(2, 0), REFUSED + 3);
        }
        tellRow(x, 10, 30);
        due("no line 3 then", x.wind(2, 0), REFUSED + 3);
        tellRow(x, 10, 10, 10, 40, 10);
        due("five", x.wind(2, 0), REFUSED + 3);
        due("as often as refused", x.count(13), cannot.length + 2);
        SmallerInTheShop y = folded(20);
        tellRow(y, 11, 41);
        dueWind(y, 2, 1, 4);
        dueWind(y, 20, 361, 400);
        tellRow(y, 20);
        due("no line 2 now", y.wind(2, 0), REFUSED + 3);
        tellRow(y, 13, 42);
        dueWind(y, 5, 16, 25);
        due("the row stays", y.count(6), 2);
        due("nothing is folded", y.count(0), 1);
    }

    private static void windInLeastTerms() {
        about("Fractions in least terms (0 by 1, if nothing)");
        SmallerInTheShop x = folded(21);
        dueWind(x, 20, 0, 1);
        tellRow(x, 10, 40);
        dueWind(x, 20, 0, 1);
        SmallerInTheShop y = new SmallerInTheShop();
        y.cover(7);
        tellRow(y, 10, 10);
        dueWind(y, 20, 1, 1);
        // Whatever line 1 does, 7 is left at the lowest by row 0 over it.
        tellRow(y, 10, 40);
        dueWind(y, 20, 19, 20);
        tellRow(y, 10, 11, 41);
        dueWind(y, 20, 1, 20);
    }

    private static void meanInLeastTerms() {
        about("MEAN WORN of all CREASES: a fraction in least terms");
        int[][] cases = {{0, 0, 1}, {1, 1, 10}, {2, 1, 5}, {4, 2, 5}, {5, 1, 2}, {9, 9, 10}, {10, 1, 1}, {11, 11, 10}, {99, 99, 10}};
        SmallerInTheShop x = new SmallerInTheShop();
        for (int[] c : cases) {
            x.wears(3, c[0]);
            dueEach("of " + c[0], part -> x.mean(part), c[1], c[2]);
        }
        for (int c = 0; c < 10; c++) {
            x.wears(c, 99);
        }
        dueEach("of 990", part -> x.mean(part), 99, 1);
        x.wears(9, 98);
        dueEach("of 989", part -> x.mean(part), 989, 10);
    }

    private static void whatItIsByNoPair() {
        about("WHAT IT IS by an empty ROW: all of it is so");
        SmallerInTheShop x = new SmallerInTheShop();
        dueEach("no pair", what -> x.whatIs(0, what), 63, 1023);
        x.row(0);
        due("half a pair", x.whatIs(0, 0), -3);
        x.row(99);
        dueEach("no kind has such an effort", what -> x.whatIs(0, what), 0, 0);
    }

    private static void whatItIsByPairs() {
        about("WHAT IT IS: KINDS (bits), FIGURES (bits 0 .. 9)");
        SmallerInTheShop x = new SmallerInTheShop();
        x.turn(2, V, 4);
        int[] efforts = {2, 3, 4, 11, 12, 13};
        int[] figures = {0, 1, 2, 256, 512, 0};
        for (int i = 0; i < efforts.length; i++) {
            tellRow(x, 0, efforts[i]);
            due("figures of a valley with " + efforts[i], x.whatIs(2, 1), figures[i]);
        }
        x.turn(2, S, 4);
        tellRow(x, 9, 3);
        dueEach("not sprung at 9", what -> x.whatIs(2, what), 1 + 2 + 8 + 32, 1023);
        tellRow(x, 9, 7);
        dueEach("not sprung at 9", what -> x.whatIs(2, what), 4 + 16, 0);
        tellRow(x, 10, 7);
        dueEach("sprung at 10", what -> x.whatIs(2, what), 4 + 8 + 16, 16);
        for (int worn = 9; worn >= 3; worn--) {
            x.row(worn);
            x.row(3);
        }
        due("a full row", x.count(6), 16);
        dueEach("all eight pairs", what -> x.whatIs(2, what), 8, 16);
        due("its own worn does not count", x.wears(2, 99), 0);
        dueEach("all eight pairs", what -> x.whatIs(2, what), 8, 16);
        tellRow(x, 10, 7, 10, 8);
        dueEach("two that can't both be so", what -> x.whatIs(2, what), 0, 0);
    }

    private static void rowFromNoneToFull() {
        about("A ROW of numbers (0 .. 99; 16 at most)");
        SmallerInTheShop x = new SmallerInTheShop();
        due("empty", x.clear(), 0);
        due("-1", x.row(-1), -4);
        due("0", x.row(0), 1);
        due("99", x.row(99), 2);
        due("100", x.row(100), -6);
        for (int i = 3; i <= 16; i++) {
            due("number " + i, x.row(50), i);
        }
        due("one more", x.row(50), -6);
        due("full and below", x.row(-1), -4);
        due("full and above", x.row(100), -6);
        due("in the row", x.count(6), 16);
        due("cleared", x.clear(), 16);
        due("room again", x.row(50), 1);
    }

    private static void dueJudged(SmallerInTheShop x, int want, int... row) {
        tellRow(x, row);
        due("of " + row.length, x.judge(), want);
        due("the row has none then", x.count(6), 0);
    }

    private static void judgedFromNoneToFull() {
        about("JUDGED: the first that can't be made; -9");
        SmallerInTheShop x = new SmallerInTheShop();
        dueJudged(x, -9);
        dueJudged(x, -9, 43);
        dueJudged(x, -9, 10, 10, 10, 43);
        dueJudged(x, 4, 10, 10, 10, 43, 10);
        dueJudged(x, 3, 20, 10, 40, 10, 10, 10, 10, 10, 10, 10, 10, 10, 10, 10, 10, 10);
        int[] cannot = {0, 9, 14, 24, 34, 44, 50, 99};
        for (int number : cannot) {
            dueJudged(x, 0, number);
            dueJudged(x, 1, 10, number, number);
        }
        SmallerInTheShop shut = folded(20, 11, 41);
        dueJudged(shut, -9);
        dueJudged(shut, 0, 10);
        due("nothing is folded", x.count(0), 0);
        due("nothing is worn", x.count(1), 0);
    }

    /** Draws by the document's words, on whole numbers without bounds. */
    private static final class Draws {
        private static final BigInteger TURN = BigInteger.ONE.shiftLeft(32);
        private BigInteger seed;

        Draws(int z) {
            seed = BigInteger.valueOf(z);
        }

        int below(int m) {
            seed = seed.multiply(BigInteger.valueOf(1664525)).add(BigInteger.valueOf(1013904223)).mod(TURN);
            BigInteger withoutSign = seed.mod(BigInteger.ONE.shiftLeft(31));
            return withoutSign.divide(BigInteger.valueOf(256)).mod(BigInteger.valueOf(m)).intValue();
        }
    }

    private static void lotsByOneLine() {
        about("LOTS: a DRAW below how many LINES there are, of one, too, a way by a DRAW below 4");
        for (int z : SEEDS) {
            SmallerInTheShop x = folded(20, 11);
            // 0 lies uppermost, face down: going over hides it, and folds crease 6 to the mountain side.
            x.turn(6, V, 9);
            Draws draws = new Draws(z);
            int over = 0;
            for (int n = 1; n <= 20; n++) {
                draws.below(1);
                over += draws.below(4) % 2 == 0 ? 1 : 0;
                due(n + " maps with " + z, x.lots(n, z, 0), 12 * n + 9 * over);
                due(n + " maps with " + z, x.lots(n, z, 1), n - over);
            }
        }
    }

    /** Whether the back of 0, uppermost at first, stays outside by draws from two lines. */
    private static boolean staysOut(Draws draws) {
        boolean byRowsFirst = draws.below(2) == 1;
        boolean above = true;
        boolean out = true;
        for (int i = 0; i < 2; i++) {
            if (i == 1) {
                draws.below(1);
            }
            int way = draws.below(4);
            out = out && (way % 2 == 1) == above;
            // 0 lies in row 0, so it goes by ways 0 and 1 of line 4, but in column 1, so by ways 2 and 3 of line 1.
            boolean byRows = byRowsFirst == (i == 0);
            boolean goes = byRows ? way < 2 : way >= 2;
            above = above != goes;
        }
        return out;
    }

    private static void lotsByTwoLines() {
        about("LOTS: of the LINES that are there the one of the number (from 0) of a DRAW");
        for (int z : SEEDS) {
            SmallerInTheShop x = folded(20);
            Draws draws = new Draws(z);
            int out = 0;
            for (int n = 1; n <= 20; n++) {
                out += staysOut(draws) ? 1 : 0;
                due(n + " maps with " + z, x.lots(n, z, 1), out);
            }
            due("effort", x.lots(20, z, 0), 20 * 24);
            due("nothing is folded", x.count(0), 1);
            due("nothing is worn", x.count(1), 2);
        }
    }

    private static void lotsWithoutTheSign() {
        about("LOTS: z is an int, without its sign's bit");
        for (int z : SEEDS) {
            SmallerInTheShop x = new SmallerInTheShop();
            x.turn(1, V, 7);
            x.turn(6, M, 8);
            x.turn(5, O, 9);
            for (int what = 0; what <= 1; what++) {
                due("other sign of " + z, x.lots(20, z ^ Integer.MIN_VALUE, what), x.lots(20, z, what));
            }
        }
    }

    private static void lotsFromOneToTwenty() {
        about("LOTS: n maps (1 .. 20)");
        SmallerInTheShop x = new SmallerInTheShop();
        due("0", x.lots(0, 0, 0), -4);
        due("1", x.lots(1, 0, 0), 30);
        due("20", x.lots(20, 0, 0), 600);
        due("21", x.lots(21, 0, 0), -6);
        SmallerInTheShop shut = folded(20, 11, 41);
        dueEach("shut, one map", what -> shut.lots(1, 9, what), 0, 1);
        dueEach("shut, twenty maps", what -> shut.lots(20, 9, what), 0, 20);
        shut.cover(1);
        dueEach("shut, cover inside", what -> shut.lots(20, 9, what), 0, 0);
    }

    private static void imageHoldsNeitherRowNorLettersNorRefusals() {
        about("THE IMAGE: all that there is, but it, the ROW, letters, REFUSALS");
        SmallerInTheShop x = new SmallerInTheShop();
        due("there is none", x.on(), -3);
        due("of no fold", x.image(), 0);
        x.fold(1, 0);
        x.opens();
        x.opens();
        x.row(12);
        x.letter('c');
        x.turn(8, O, 8);
        x.wears(8, 8);
        x.cover(2);
        due("on", x.on(), 0);
        dueEach("of a new one", x::count, 0, 0, 0, 0, 8, 1, 1, 1);
        due("kind", x.crease(8, 0), 0);
        due("figure", x.crease(8, 1), 0);
        due("refusals stay", x.count(13), 2);
        x.letter('4');
        x.letter(';');
        due("letters go on", x.map(), 1);
        due("the row goes on", x.clear(), 1);
        due("nothing to be opened, as then", x.opens(), -3);
    }

    private static void dueAlike(SmallerInTheShop x, SmallerInTheShop y) {
        for (int what = 0; what <= 6; what++) {
            due("wad(" + what + ")", x.wad(what), y.wad(what));
        }
        for (int what = 0; what <= 5; what++) {
            for (int p = 0; p < 8; p++) {
                due("panel(" + p + ", " + what + ")", x.panel(p, what), y.panel(p, what));
            }
        }
        for (int c = 0; c < 10; c++) {
            due("side of " + c, x.crease(c, 3), y.crease(c, 3));
        }
    }

    private static void imageIsTakenAnew() {
        about("ON from it all is as then");
        SmallerInTheShop x = folded(10, 11, 10, 41);
        due("of four folds", x.image(), 4);
        for (int left = 3; left >= 0; left--) {
            due("opened", x.opens(), left);
        }
        x.fold(4, 3);
        x.fold(2, 1);
        x.fold(1, 2);
        due("on", x.on(), 4);
        dueAlike(x, folded(10, 11, 10, 41));
        due("cover out as then", x.wad(4), 1);
        x.opens();
        x.opens();
        due("another one", x.image(), 2);
        x.opens();
        x.fold(2, 0);
        x.fold(1, 3);
        due("on", x.on(), 2);
        due("on again", x.on(), 2);
        dueAlike(x, folded(10, 11));
        due("opened", x.opens(), 1);
        dueAlike(x, folded(10));
        due("opened", x.opens(), 0);
        due("none is left", x.opens(), -3);
        due("worn as then", x.count(1), 10);
    }

    private static void countOfAnotherWhat() {
        about("count: -9 for another what");
        SmallerInTheShop x = new SmallerInTheShop();
        int[] others = {Integer.MIN_VALUE, Integer.MIN_VALUE + 10, Integer.MIN_VALUE + 11, -1, 8, 9, 10, 17, Integer.MAX_VALUE};
        for (int what : others) {
            due("count(" + what + ")", x.count(what), -9);
        }
        dueEach("it is no refusal", i -> x.count(11 + i), 0, 0, 0, 0, 0, 0);
        x.cover(8);
        x.cover(-1);
        x.wad(7);
        x.opens();
        x.ways(-1);
        x.ways(5);
        x.row(100);
        dueEach("refusals", i -> x.count(11 + i), 2, 1, 1, 1, 0, 2);
    }

    private static void refusalsOfLongs() {
        about("Of longs 4000000000000000000 less them");
        SmallerInTheShop x = new SmallerInTheShop();
        due("-2", x.mean(2), 4000000000000000002L);
        due("-2", x.mean(-1), 4000000000000000002L);
        due("-2", x.wind(2, 2), 4000000000000000002L);
        due("-4", x.wind(1, 2), 4000000000000000004L);
        due("-6", x.wind(21, 2), 4000000000000000006L);
        x.row(0);
        due("-3", x.wind(20, 2), 4000000000000000003L);
        dueEach("they are counted", i -> x.count(11 + i), 0, 3, 1, 1, 0, 1);
    }

    private static void fiveHundredAndTwelveCalls() {
        about("An object is used for at most 512 calls");
        SmallerInTheShop x = new SmallerInTheShop();
        for (int i = 0; i < 170; i++) {
            due("fold", x.fold(4, i % 4), 12);
            due("open", x.opens(), 0);
            due("none", x.opens(), -3);
        }
        due("call 511", x.count(13), 170);
        due("call 512", x.count(1), 4 * 99);
    }
}
