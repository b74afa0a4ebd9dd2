/**
 * A map of eight panels that is folded and opened, with creases that know a side, spring and wear.
 * The document ../shared/DOC.md says what each call answers.
 */
public final class SmallerInTheShop {

    private static final int PANEL_COUNT = 8;
    private static final int CREASE_COUNT = 10;
    private static final int CROSSING_COUNT = 3;
    private static final int KIND_COUNT = 6;
    private static final int COLUMN_COUNT = 4;
    private static final int ROW_COUNT = 2;
    private static final int WAY_COUNT = 4;
    private static final int LINE_LIMIT = 4;
    private static final int ROW_LINE = 4;
    // Three folds bring four columns to one at the slowest, one brings two rows to one.
    private static final int FOLD_LIMIT = 4;

    private static final int WORN_LIMIT = 99;
    private static final int FIGURE_LIMIT = 9;
    private static final int HOLE_WORN = 40;
    private static final int LASTS_LIMIT = 99;
    private static final int LETTER_LIMIT = 96;
    private static final int LETTER_GREATEST = 255;
    private static final int TOLD_LIMIT = 16;
    private static final int TOLD_GREATEST = 99;
    private static final int LOTS_LIMIT = 20;
    private static final int ODDS_LEAST = 2;
    private static final int ODDS_GREATEST = 20;
    private static final int SET_GREATEST = 255;

    private static final int FLAT = 0;
    private static final int MOUNTAIN = 1;
    private static final int VALLEY = 2;

    private static final int MOUNTAIN_KIND = 1;
    private static final int VALLEY_KIND = 2;
    private static final int SPRUNG_KIND = 3;
    private static final int TAPED_KIND = 4;
    private static final int SOFT_KIND = 5;
    private static final String KIND_LETTERS = "cmvsto";
    private static final int PLAIN_EFFORT = 3;
    private static final int PLAIN_WEAR = 1;
    private static final int TAPE_EFFORT = 4;
    private static final int SPRUNG_WORN = 10;

    private static final int NOBODY = -1;
    private static final int OTHER = -2;
    private static final int STATE = -3;
    private static final int BELOW = -4;
    private static final int ROOM = -6;
    private static final int REFUSAL_KINDS = 6;
    private static final int NONE = -9;
    private static final int FORM_FAULT = -1000;
    private static final int SENSE_FAULT = -2000;
    private static final long LONG_REFUSAL = 4000000000000000000L;

    /** The two panels that a crease lies between. */
    private static final int[] CREASE_START = {0, 1, 2, 4, 5, 6, 0, 1, 2, 3};
    private static final int[] CREASE_END = {1, 2, 3, 5, 6, 7, 4, 5, 6, 7};

    private final Sheet now = new Sheet();
    private final Sheet taken = new Sheet();
    private final Sheet trial = new Sheet();
    private final Search search = new Search();
    private final Letters letters = new Letters();
    private final Draws draws = new Draws();
    private final int[] told = new int[TOLD_LIMIT];
    private final int[] refusals = new int[REFUSAL_KINDS + 1];
    private int toldCount;
    private boolean hasTaken;

    public SmallerInTheShop() {
        toldCount = 0;
        hasTaken = false;
    }

    public int letter(int c) {
        if (c < 0) {
            return refuse(BELOW);
        }
        if (c > LETTER_GREATEST || letters.isFull()) {
            return refuse(ROOM);
        }
        return letters.addLetter(c);
    }

    public int map() {
        int wrong = letters.firstWrongPlace();
        int answer = wrong >= 0 ? FORM_FAULT - wrong : doStatements();
        letters.forget();
        return answer;
    }

    public int crease(int crease, int what) {
        if (!isBelow(crease, CREASE_COUNT)) {
            return refuse(NOBODY);
        }
        switch (what) {
            case 0:
                return now.kindOf[crease];
            case 1:
                return now.figureOf[crease];
            case 2:
                return now.wornOf[crease];
            case 3:
                return now.top().sideOf[crease];
            case 4:
                return now.effortOn(crease, MOUNTAIN);
            case 5:
                return now.effortOn(crease, VALLEY);
            default:
                return refuse(OTHER);
        }
    }

    public int panel(int panel, int what) {
        if (!isBelow(panel, PANEL_COUNT)) {
            return refuse(NOBODY);
        }
        Layout top = now.top();
        switch (what) {
            case 0:
                return top.columnOf[panel];
            case 1:
                return top.rowOf[panel];
            case 2:
                return top.layerOf[panel];
            case 3:
                return top.downOf[panel];
            case 4:
                return asNumber(top.isRead(panel));
            case 5:
                return top.countAbove(panel);
            default:
                return refuse(OTHER);
        }
    }

    public int fold(int line, int way) {
        int refusal = refusalOfFold(line, way);
        return refusal < 0 ? refuse(refusal) : now.makeFold(line, way);
    }

    public int opens() {
        return now.openLast() ? now.foldCount : refuse(STATE);
    }

    public int wears(int crease, int v) {
        if (!isBelow(crease, CREASE_COUNT)) {
            return refuse(NOBODY);
        }
        if (v < 0) {
            return refuse(BELOW);
        }
        if (v > WORN_LIMIT) {
            return refuse(ROOM);
        }
        int old = now.wornOf[crease];
        now.wornOf[crease] = v;
        return old;
    }

    public int turn(int crease, int kind, int figure) {
        if (!isBelow(crease, CREASE_COUNT)) {
            return refuse(NOBODY);
        }
        if (!isBelow(kind, KIND_COUNT)) {
            return refuse(OTHER);
        }
        if (figure < 0) {
            return refuse(BELOW);
        }
        if (figure > FIGURE_LIMIT) {
            return refuse(ROOM);
        }
        int old = 10 * now.kindOf[crease] + now.figureOf[crease];
        now.kindOf[crease] = kind;
        now.figureOf[crease] = figure;
        return old;
    }

    public int cover(int panel) {
        if (!isBelow(panel, PANEL_COUNT)) {
            return refuse(NOBODY);
        }
        int old = now.coverPanel;
        now.coverPanel = panel;
        return old;
    }

    public int hurts(int line, int way, int what) {
        int refusal = refusalOfFold(line, way);
        if (refusal < 0) {
            return refuse(refusal);
        }
        if (!isBelow(what, 3)) {
            return refuse(OTHER);
        }
        int effort = now.tryFold(now.foldCount, line, way);
        if (what == 0) {
            return effort;
        }
        Layout after = now.layouts[now.foldCount + 1];
        return what == 1 ? after.fresh : now.wearOf(after);
    }

    public int over(int a, int b) {
        if (!arePair(a, b)) {
            return refuse(NOBODY);
        }
        return asNumber(now.top().liesAbove(a, b));
    }

    public int wad(int what) {
        Layout top = now.top();
        switch (what) {
            case 0:
                return top.width;
            case 1:
                return top.height;
            case 2:
                return top.thickness();
            case 3:
                return top.readPanels();
            case 4:
                return asNumber(top.showsBack(now.coverPanel));
            case 5:
                return now.foldCount;
            case 6:
                return (1 << CREASE_COUNT) - 1 - top.foldedCreases();
            default:
                return refuse(OTHER);
        }
    }

    public int shut(int what) {
        if (!isBelow(what, 3)) {
            return refuse(OTHER);
        }
        search.begin(what == 2 ? Search.SHUT_SOON : Search.SHUT_LIGHT);
        search.run(now);
        return what == 0 ? search.wayFound() : search.costFound();
    }

    public int ways(int n) {
        if (n < 0) {
            return refuse(BELOW);
        }
        if (n > FOLD_LIMIT) {
            return refuse(ROOM);
        }
        search.begin(Search.SHUT_SOON);
        search.run(now);
        return search.waysWith(n);
    }

    public int up(int a, int b, int m, int what) {
        if (!arePair(a, b)) {
            return refuse(NOBODY);
        }
        if (m < 1) {
            return refuse(BELOW);
        }
        if (m > PANEL_COUNT) {
            return refuse(ROOM);
        }
        if (!isBelow(what, 2)) {
            return refuse(OTHER);
        }
        search.begin(Search.READ_ALL);
        search.pocket = m;
        search.set = 1 << a | 1 << b;
        search.run(now);
        return what == 0 ? search.wayFound() : search.costFound();
    }

    public int most(int set, int m, int what) {
        if (set < 0 || m < 1) {
            return refuse(BELOW);
        }
        if (set > SET_GREATEST || m > PANEL_COUNT) {
            return refuse(ROOM);
        }
        if (!isBelow(what, 2)) {
            return refuse(OTHER);
        }
        search.begin(Search.READ_MOST);
        search.pocket = m;
        search.set = set;
        search.run(now);
        if (what == 1 || !search.found) {
            return search.wayFound();
        }
        return PANEL_COUNT - search.costFound();
    }

    public int layers() {
        if (!tellsAllPanels()) {
            return NONE;
        }
        search.begin(Search.LAYERED);
        for (int i = 0; i < PANEL_COUNT; i++) {
            search.layerWanted[told[i]] = PANEL_COUNT - 1 - i;
        }
        search.run(now);
        return search.wayFound();
    }

    public int lasts(int line, int way) {
        int refusal = refusalOfFold(line, way);
        if (refusal < 0) {
            return refuse(refusal);
        }
        now.tryFold(now.foldCount, line, way);
        trial.copyCreasesFrom(now);
        return trial.lastsUnder(now.layouts[now.foldCount + 1]);
    }

    public int tape(int line, int way) {
        int refusal = refusalOfFold(line, way);
        if (refusal < 0) {
            return refuse(refusal);
        }
        now.tryFold(now.foldCount, line, way);
        Layout after = now.layouts[now.foldCount + 1];
        trial.copyCreasesFrom(now);
        int most = trial.lastsUnder(after);
        int best = NONE;
        for (int c = 0; c < CREASE_COUNT; c++) {
            trial.copyCreasesFrom(now);
            trial.kindOf[c] = TAPED_KIND;
            int lasting = trial.lastsUnder(after);
            if (lasting > most) {
                most = lasting;
                best = c;
            }
        }
        return best;
    }

    public int first(int line, int way, int line2, int way2) {
        if (!isLine(line) || !isLine(line2)) {
            return refuse(NOBODY);
        }
        if (!isBelow(way, WAY_COUNT) || !isBelow(way2, WAY_COUNT)) {
            return refuse(OTHER);
        }
        int straight = effortOfTwo(line, way, line2, way2);
        int swapped = effortOfTwo(line2, way2, line, way);
        if (straight == swapped) {
            return NONE;
        }
        if (straight < 0) {
            return 1;
        }
        return swapped < 0 || straight < swapped ? 0 : 1;
    }

    public int hole(int crossing, int what) {
        if (!isBelow(crossing, CROSSING_COUNT)) {
            return refuse(NOBODY);
        }
        if (!isBelow(what, 2)) {
            return refuse(OTHER);
        }
        int worn = now.wornAt(crossing);
        return what == 0 ? worn : asNumber(worn >= HOLE_WORN);
    }

    public int weakest(int what) {
        if (!isBelow(what, 3)) {
            return refuse(OTHER);
        }
        if (what == 2) {
            return now.holes();
        }
        int weakest = 0;
        for (int k = 1; k < CROSSING_COUNT; k++) {
            if (now.wornAt(k) > now.wornAt(weakest)) {
                weakest = k;
            }
        }
        return what == 0 ? weakest : now.wornAt(weakest);
    }

    public long wind(int t, int part) {
        if (t < ODDS_LEAST) {
            return refuseLong(BELOW);
        }
        if (t > ODDS_GREATEST) {
            return refuseLong(ROOM);
        }
        if (toldCount > FOLD_LIMIT || firstImpossible() >= 0) {
            return refuseLong(STATE);
        }
        if (!isBelow(part, 2)) {
            return refuseLong(OTHER);
        }
        long above = 0;
        long below = 0;
        for (int gusts = 0; gusts < 1 << toldCount; gusts++) {
            long weight = power(t - 1, toldCount - Integer.bitCount(gusts));
            below += weight;
            if (isCoverOutBy(gusts)) {
                above += weight;
            }
        }
        return partOfFraction(above, below, part);
    }

    public long mean(int part) {
        if (!isBelow(part, 2)) {
            return refuseLong(OTHER);
        }
        return partOfFraction(now.wornOfAll(), CREASE_COUNT, part);
    }

    public int whatIs(int crease, int what) {
        if (!isBelow(crease, CREASE_COUNT)) {
            return refuse(NOBODY);
        }
        if (!isBelow(what, 2)) {
            return refuse(OTHER);
        }
        if (toldCount % 2 != 0) {
            return refuse(STATE);
        }
        return what == 0 ? kindsThatFit(now.figureOf[crease]) : figuresThatFit(now.kindOf[crease]);
    }

    public int row(int v) {
        if (v < 0) {
            return refuse(BELOW);
        }
        if (v > TOLD_GREATEST || toldCount >= TOLD_LIMIT) {
            return refuse(ROOM);
        }
        told[toldCount] = v;
        toldCount++;
        return toldCount;
    }

    public int judge() {
        int impossible = firstImpossible();
        toldCount = 0;
        return impossible < 0 ? NONE : impossible;
    }

    public int clear() {
        int had = toldCount;
        toldCount = 0;
        return had;
    }

    public int lots(int n, int z, int what) {
        if (n < 1) {
            return refuse(BELOW);
        }
        if (n > LOTS_LIMIT) {
            return refuse(ROOM);
        }
        if (!isBelow(what, 2)) {
            return refuse(OTHER);
        }
        draws.seed = z;
        int effort = 0;
        int out = 0;
        for (int i = 0; i < n; i++) {
            effort += shutByLot();
            out += asNumber(now.layouts[draws.depth].showsBack(now.coverPanel));
        }
        return what == 0 ? effort : out;
    }

    public int image() {
        taken.copyFrom(now);
        hasTaken = true;
        return taken.foldCount;
    }

    public int on() {
        if (!hasTaken) {
            return refuse(STATE);
        }
        now.copyFrom(taken);
        return now.foldCount;
    }

    public int count(int what) {
        switch (what) {
            case 0:
                return now.foldCount;
            case 1:
                return now.wornOfAll();
            case 2:
                return now.top().foldedCreases();
            case 3:
                return now.coverPanel;
            case 4:
                return now.top().cells();
            case 5:
                return now.top().thickness();
            case 6:
                return toldCount;
            case 7:
                return letters.size;
            default:
                return countOfRefusals(what - 10);
        }
    }

    private int countOfRefusals(int kind) {
        return kind >= 1 && kind <= REFUSAL_KINDS ? refusals[kind] : NONE;
    }

    private int refuse(int refusal) {
        int kind = -refusal;
        if (kind >= 1 && kind <= REFUSAL_KINDS) {
            refusals[kind]++;
        }
        return refusal;
    }

    private long refuseLong(int refusal) {
        return LONG_REFUSAL - refuse(refusal);
    }

    /** 0 when the fold can be made now. */
    private int refusalOfFold(int line, int way) {
        if (!now.canFold(now.foldCount, line)) {
            return NOBODY;
        }
        return isBelow(way, WAY_COUNT) ? 0 : OTHER;
    }

    private static boolean isBelow(int number, int bound) {
        return number >= 0 && number < bound;
    }

    private static boolean isLine(int line) {
        return line >= 1 && line <= LINE_LIMIT;
    }

    private static boolean arePair(int a, int b) {
        return isBelow(a, PANEL_COUNT) && isBelow(b, PANEL_COUNT) && a != b;
    }

    private static int asNumber(boolean so) {
        return so ? 1 : 0;
    }

    /** All statements come to the trial sheet, so that a fault leaves what there is now untouched. */
    private int doStatements() {
        trial.copyFrom(now);
        int statements = 0;
        for (int place = 0; place < letters.size; place += 1 + letters.lengthBehind(place)) {
            if (!doStatement(place)) {
                return SENSE_FAULT - place;
            }
            statements++;
        }
        now.copyFrom(trial);
        return statements;
    }

    private boolean doStatement(int place) {
        int number = letters.digitAt(place + 1);
        switch (letters.signAt(place)) {
            case 'k':
                return tellKind(number, letters.kindAt(place + 2), letters.digitAt(place + 3));
            case 'w':
                return tellWorn(number, 10 * letters.digitAt(place + 2) + letters.digitAt(place + 3));
            case 'f':
                return tellFold(number, letters.digitAt(place + 2));
            case 'o':
                return trial.openLast();
            case 'c':
                return tellCover(number);
            default:
                return false;
        }
    }

    private boolean tellKind(int crease, int kind, int figure) {
        if (!isBelow(crease, CREASE_COUNT)) {
            return false;
        }
        trial.kindOf[crease] = kind;
        trial.figureOf[crease] = figure;
        return true;
    }

    private boolean tellWorn(int crease, int worn) {
        if (!isBelow(crease, CREASE_COUNT)) {
            return false;
        }
        trial.wornOf[crease] = worn;
        return true;
    }

    private boolean tellFold(int line, int way) {
        if (!trial.canFold(trial.foldCount, line) || !isBelow(way, WAY_COUNT)) {
            return false;
        }
        trial.makeFold(line, way);
        return true;
    }

    private boolean tellCover(int panel) {
        if (!isBelow(panel, PANEL_COUNT)) {
            return false;
        }
        trial.coverPanel = panel;
        return true;
    }

    private boolean tellsAllPanels() {
        if (toldCount != PANEL_COUNT) {
            return false;
        }
        int seen = 0;
        for (int i = 0; i < PANEL_COUNT; i++) {
            if (!isBelow(told[i], PANEL_COUNT)) {
                return false;
            }
            seen |= 1 << told[i];
        }
        return seen == (1 << PANEL_COUNT) - 1;
    }

    /** The effort of both folds in this order, -1 when they can't be made so. */
    private int effortOfTwo(int line, int way, int nextLine, int nextWay) {
        int depth = now.foldCount;
        if (!now.canFold(depth, line)) {
            return -1;
        }
        int effort = now.tryFold(depth, line, way);
        if (!now.canFold(depth + 1, nextLine)) {
            return -1;
        }
        return effort + now.tryFold(depth + 1, nextLine, nextWay);
    }

    /** The place in the row of the first fold that can't be made, -1 when all can. */
    private int firstImpossible() {
        int depth = now.foldCount;
        for (int i = 0; i < toldCount; i++) {
            int line = told[i] / 10;
            int way = told[i] % 10;
            if (!now.canFold(depth, line) || way >= WAY_COUNT) {
                return i;
            }
            now.tryFold(depth, line, way);
            depth++;
        }
        return -1;
    }

    /** Whether the cover is out behind the told folds, those in the bits of gusts turned by the wind. */
    private boolean isCoverOutBy(int gusts) {
        int depth = now.foldCount;
        for (int i = 0; i < toldCount; i++) {
            int line = told[i] / 10;
            int way = told[i] % 10 ^ gusts >> i & 1;
            if (now.canFold(depth, line)) {
                now.tryFold(depth, line, way);
                depth++;
            }
        }
        return now.layouts[depth].showsBack(now.coverPanel);
    }

    private static long power(long base, int exponent) {
        long product = 1;
        for (int i = 0; i < exponent; i++) {
            product *= base;
        }
        return product;
    }

    private static long partOfFraction(long above, long below, int part) {
        long larger = below;
        long smaller = above;
        // Euclid's steps on numbers of this size are far fewer than a hundred.
        for (int i = 0; i < 100 && smaller != 0; i++) {
            long rest = larger % smaller;
            larger = smaller;
            smaller = rest;
        }
        if (larger == 0) {
            return part;
        }
        return part == 0 ? above / larger : below / larger;
    }

    private int kindsThatFit(int figure) {
        int fitting = 0;
        for (int kind = 0; kind < KIND_COUNT; kind++) {
            if (fitsAllPairs(kind, figure)) {
                fitting |= 1 << kind;
            }
        }
        return fitting;
    }

    private int figuresThatFit(int kind) {
        int fitting = 0;
        for (int figure = 0; figure <= FIGURE_LIMIT; figure++) {
            if (fitsAllPairs(kind, figure)) {
                fitting |= 1 << figure;
            }
        }
        return fitting;
    }

    private boolean fitsAllPairs(int kind, int figure) {
        for (int i = 0; i + 1 < toldCount; i += 2) {
            if (Kinds.effort(kind, figure, told[i], MOUNTAIN) != told[i + 1]) {
                return false;
            }
        }
        return true;
    }

    /** Folds by lot from now till it is shut; draws.depth tells the layout that is reached. */
    private int shutByLot() {
        int effort = 0;
        draws.depth = now.foldCount;
        for (int i = 0; i < FOLD_LIMIT && !now.layouts[draws.depth].isShut(); i++) {
            Layout here = now.layouts[draws.depth];
            int line = here.lineOfNumber(draws.drawBelow(here.countLines()));
            int way = draws.drawBelow(WAY_COUNT);
            if (now.canFold(draws.depth, line)) {
                effort += now.tryFold(draws.depth, line, way);
                draws.depth++;
            }
        }
        return effort;
    }

    /** What a crease of a kind costs and wears, by the side to which it is folded. */
    private static final class Kinds {

        private Kinds() {
        }

        static int effort(int kind, int figure, int worn, int side) {
            switch (kind) {
                case MOUNTAIN_KIND:
                    return effortAgainst(VALLEY, figure, side);
                case VALLEY_KIND:
                    return effortAgainst(MOUNTAIN, figure, side);
                case SPRUNG_KIND:
                    return effortAgainst(VALLEY, figure, sprungSide(worn, side));
                case TAPED_KIND:
                    return PLAIN_EFFORT + TAPE_EFFORT;
                case SOFT_KIND:
                    return effortAgainst(MOUNTAIN, figure, side) / 2;
                default:
                    return PLAIN_EFFORT;
            }
        }

        static int wear(int kind, int worn, int side) {
            switch (kind) {
                case MOUNTAIN_KIND:
                    return wearAgainst(VALLEY, side);
                case VALLEY_KIND:
                    return wearAgainst(MOUNTAIN, side);
                case SPRUNG_KIND:
                    return wearAgainst(VALLEY, sprungSide(worn, side));
                case TAPED_KIND:
                    return 0;
                case SOFT_KIND:
                    return wearAgainst(MOUNTAIN, side) + 1;
                default:
                    return PLAIN_WEAR;
            }
        }

        private static int effortAgainst(int hardSide, int figure, int side) {
            return side == hardSide ? PLAIN_EFFORT + figure : PLAIN_EFFORT;
        }

        private static int wearAgainst(int hardSide, int side) {
            return side == hardSide ? PLAIN_WEAR + 1 : PLAIN_WEAR;
        }

        private static int sprungSide(int worn, int side) {
            if (worn < SPRUNG_WORN) {
                return side;
            }
            return side == MOUNTAIN ? VALLEY : MOUNTAIN;
        }
    }

    /** How the panels lie and to which sides the creases are folded. */
    private static final class Layout {

        private final int[] columnOf = new int[PANEL_COUNT];
        private final int[] rowOf = new int[PANEL_COUNT];
        private final int[] layerOf = new int[PANEL_COUNT];
        private final int[] downOf = new int[PANEL_COUNT];
        private final int[] sideOf = new int[CREASE_COUNT];
        /** How many panels lie in each cell, row by row. */
        private final int[] heapIn = new int[COLUMN_COUNT * ROW_COUNT];
        private int width;
        private int height;
        /** The creases (bits) which the fold that led here has folded. */
        private int fresh;

        Layout() {
            width = COLUMN_COUNT;
            height = ROW_COUNT;
            fresh = 0;
            for (int p = 0; p < PANEL_COUNT; p++) {
                columnOf[p] = p % COLUMN_COUNT;
                rowOf[p] = p / COLUMN_COUNT;
                heapIn[p] = 1;
            }
        }

        void copyLayout(Layout other) {
            for (int p = 0; p < PANEL_COUNT; p++) {
                columnOf[p] = other.columnOf[p];
                rowOf[p] = other.rowOf[p];
                layerOf[p] = other.layerOf[p];
                downOf[p] = other.downOf[p];
                heapIn[p] = other.heapIn[p];
            }
            for (int c = 0; c < CREASE_COUNT; c++) {
                sideOf[c] = other.sideOf[c];
            }
            width = other.width;
            height = other.height;
            fresh = other.fresh;
        }

        boolean hasLine(int line) {
            return line == ROW_LINE ? height == ROW_COUNT : line >= 1 && line < width;
        }

        int countLines() {
            return width - 1 + height - 1;
        }

        int lineOfNumber(int number) {
            return number < width - 1 ? number + 1 : ROW_LINE;
        }

        int cells() {
            return width * height;
        }

        boolean isShut() {
            return width == 1 && height == 1;
        }

        int countAbove(int panel) {
            return heapIn[cellOf(panel)] - 1 - layerOf[panel];
        }

        boolean isRead(int panel) {
            return downOf[panel] == 0 ? countAbove(panel) == 0 : layerOf[panel] == 0;
        }

        boolean showsBack(int panel) {
            return downOf[panel] == 0 ? layerOf[panel] == 0 : countAbove(panel) == 0;
        }

        int readPanels() {
            int read = 0;
            for (int p = 0; p < PANEL_COUNT; p++) {
                if (isRead(p)) {
                    read |= 1 << p;
                }
            }
            return read;
        }

        int foldedCreases() {
            int folded = 0;
            for (int c = 0; c < CREASE_COUNT; c++) {
                if (sideOf[c] != FLAT) {
                    folded |= 1 << c;
                }
            }
            return folded;
        }

        int thickness() {
            int most = 0;
            for (int cell = 0; cell < PANEL_COUNT; cell++) {
                most = Math.max(most, heapIn[cell]);
            }
            return most;
        }

        boolean liesAbove(int a, int b) {
            return cellOf(a) == cellOf(b) && layerOf[a] > layerOf[b];
        }

        /** This becomes what lies behind a fold of the other; the line must be there. */
        void becomeFolded(Layout ahead, int line, int way) {
            boolean byRow = line == ROW_LINE;
            int cut = byRow ? 1 : line;
            boolean goesOver = way % 2 == 0;
            movePanels(ahead, byRow, cut, way < 2, goesOver);
            width = byRow ? ahead.width : Math.max(cut, ahead.width - cut);
            height = byRow ? 1 : ahead.height;
            countHeaps();
            foldCreases(ahead, byRow, cut, goesOver);
        }

        private void movePanels(Layout ahead, boolean byRow, int cut, boolean oneGoes, boolean goesOver) {
            int length = byRow ? ahead.height : ahead.width;
            // Cells are counted anew from the first that is taken behind the fold.
            int start = oneGoes ? cut : Math.min(0, 2 * cut - length);
            for (int p = 0; p < PANEL_COUNT; p++) {
                int place = byRow ? ahead.rowOf[p] : ahead.columnOf[p];
                int mirrored = 2 * cut - 1 - place;
                int aside = byRow ? ahead.columnOf[p] : ahead.rowOf[p];
                int facing = isBelow(mirrored, length) ? ahead.heapAt(byRow, mirrored, aside) : 0;
                boolean goes = place < cut == oneGoes;
                if (goes) {
                    int above = ahead.heapAt(byRow, place, aside) - 1 - ahead.layerOf[p];
                    layerOf[p] = above + (goesOver ? facing : 0);
                } else {
                    layerOf[p] = ahead.layerOf[p] + (goesOver ? 0 : facing);
                }
                downOf[p] = goes ? 1 - ahead.downOf[p] : ahead.downOf[p];
                int moved = (goes ? mirrored : place) - start;
                columnOf[p] = byRow ? aside : moved;
                rowOf[p] = byRow ? moved : aside;
            }
        }

        private void foldCreases(Layout ahead, boolean byRow, int cut, boolean goesOver) {
            fresh = 0;
            for (int c = 0; c < CREASE_COUNT; c++) {
                sideOf[c] = ahead.sideOf[c];
                if (sideOf[c] == FLAT && ahead.liesAcross(c, byRow, cut)) {
                    boolean faceUp = ahead.downOf[CREASE_START[c]] == 0;
                    sideOf[c] = faceUp == goesOver ? VALLEY : MOUNTAIN;
                    fresh |= 1 << c;
                }
            }
        }

        /** Whether the panels of the crease lie in cells beside one another on both sides of the line. */
        private boolean liesAcross(int crease, boolean byRow, int cut) {
            int a = CREASE_START[crease];
            int b = CREASE_END[crease];
            int[] along = byRow ? rowOf : columnOf;
            int[] aside = byRow ? columnOf : rowOf;
            return aside[a] == aside[b]
                    && Math.min(along[a], along[b]) == cut - 1
                    && Math.max(along[a], along[b]) == cut;
        }

        private void countHeaps() {
            for (int cell = 0; cell < PANEL_COUNT; cell++) {
                heapIn[cell] = 0;
            }
            for (int p = 0; p < PANEL_COUNT; p++) {
                heapIn[cellOf(p)]++;
            }
        }

        private int heapAt(boolean byRow, int along, int aside) {
            return heapIn[byRow ? COLUMN_COUNT * along + aside : COLUMN_COUNT * aside + along];
        }

        private int cellOf(int panel) {
            return COLUMN_COUNT * rowOf[panel] + columnOf[panel];
        }
    }

    /** The map: its creases, its cover, and how it lay at first and behind each of its folds. */
    private static final class Sheet {

        /** Those above foldCount are free room for looking ahead. */
        private final Layout[] layouts = new Layout[FOLD_LIMIT + 1];
        private final int[] kindOf = new int[CREASE_COUNT];
        private final int[] figureOf = new int[CREASE_COUNT];
        private final int[] wornOf = new int[CREASE_COUNT];
        private int foldCount;
        private int coverPanel;

        Sheet() {
            for (int i = 0; i <= FOLD_LIMIT; i++) {
                layouts[i] = new Layout();
            }
            foldCount = 0;
            coverPanel = 0;
        }

        void copyFrom(Sheet other) {
            copyCreasesFrom(other);
            foldCount = other.foldCount;
            coverPanel = other.coverPanel;
            for (int i = 1; i <= foldCount && i <= FOLD_LIMIT; i++) {
                layouts[i].copyLayout(other.layouts[i]);
            }
        }

        void copyCreasesFrom(Sheet other) {
            for (int c = 0; c < CREASE_COUNT; c++) {
                kindOf[c] = other.kindOf[c];
                figureOf[c] = other.figureOf[c];
                wornOf[c] = other.wornOf[c];
            }
        }

        Layout top() {
            return layouts[foldCount];
        }

        boolean canFold(int depth, int line) {
            return depth < FOLD_LIMIT && layouts[depth].hasLine(line);
        }

        /** Fills the layout behind the one at this depth, which must have the line: the effort. */
        int tryFold(int depth, int line, int way) {
            Layout after = layouts[depth + 1];
            after.becomeFolded(layouts[depth], line, way);
            int effort = 0;
            for (int c = 0; c < CREASE_COUNT; c++) {
                if ((after.fresh >> c & 1) != 0) {
                    effort += effortOn(c, after.sideOf[c]);
                }
            }
            return effort;
        }

        int makeFold(int line, int way) {
            int effort = tryFold(foldCount, line, way);
            foldCount++;
            wearDown(top());
            return effort;
        }

        boolean openLast() {
            if (foldCount == 0) {
                return false;
            }
            foldCount--;
            return true;
        }

        int effortOn(int crease, int side) {
            return Kinds.effort(kindOf[crease], figureOf[crease], wornOf[crease], side);
        }

        int wearOf(Layout after) {
            int more = 0;
            for (int c = 0; c < CREASE_COUNT; c++) {
                more += wornBehind(c, after) - wornOf[c];
            }
            return more;
        }

        private void wearDown(Layout after) {
            for (int c = 0; c < CREASE_COUNT; c++) {
                wornOf[c] = wornBehind(c, after);
            }
        }

        private int wornBehind(int crease, Layout after) {
            if ((after.fresh >> crease & 1) == 0) {
                return wornOf[crease];
            }
            int wear = Kinds.wear(kindOf[crease], wornOf[crease], after.sideOf[crease]);
            return Math.min(WORN_LIMIT, wornOf[crease] + wear);
        }

        int wornOfAll() {
            int worn = 0;
            for (int c = 0; c < CREASE_COUNT; c++) {
                worn += wornOf[c];
            }
            return worn;
        }

        int wornAt(int crossing) {
            return wornOf[crossing] + wornOf[crossing + 3] + wornOf[crossing + 6] + wornOf[crossing + 7];
        }

        int holes() {
            int holes = 0;
            for (int k = 0; k < CROSSING_COUNT; k++) {
                if (wornAt(k) >= HOLE_WORN) {
                    holes |= 1 << k;
                }
            }
            return holes;
        }

        /** Wears this sheet by the fold again and again till there is a hole more: behind how many times. */
        int lastsUnder(Layout after) {
            int old = holes();
            for (int times = 1; times < LASTS_LIMIT; times++) {
                wearDown(after);
                if (holes() != old) {
                    return times;
                }
            }
            return LASTS_LIMIT;
        }
    }

    /** Looks at the ways from now for the one of least cost, of several the one of the least number. */
    private static final class Search {

        static final int SHUT_LIGHT = 0;
        static final int SHUT_SOON = 1;
        static final int READ_ALL = 2;
        static final int READ_MOST = 3;
        static final int LAYERED = 4;

        private final int[] layerWanted = new int[PANEL_COUNT];
        private final int[] hitsWith = new int[FOLD_LIMIT + 1];
        private int goal;
        private int pocket;
        private int set;
        private boolean found;
        private int leastCost;
        private int leastWay;

        void begin(int newGoal) {
            goal = newGoal;
            pocket = 1;
            set = 0;
            found = false;
            leastCost = 0;
            leastWay = 0;
            for (int i = 0; i <= FOLD_LIMIT; i++) {
                hitsWith[i] = 0;
            }
        }

        void run(Sheet sheet) {
            explore(sheet, sheet.foldCount, 0, 0);
        }

        int wayFound() {
            return found ? leastWay : NONE;
        }

        int costFound() {
            return found ? leastCost : NONE;
        }

        /** Each fold that is looked at stands for its twin, too, so for two to the power of n ways. */
        int waysWith(int n) {
            return n >= 0 && n <= FOLD_LIMIT ? hitsWith[n] << n : 0;
        }

        private void explore(Sheet sheet, int depth, int effort, int way) {
            if (depth < sheet.foldCount || depth > FOLD_LIMIT) {
                return;
            }
            Layout here = sheet.layouts[depth];
            int made = depth - sheet.foldCount;
            if (isReached(sheet, here)) {
                hitsWith[made]++;
                offer(costOf(here, made, effort), way);
            }
            if (isHopeless(effort)) {
                return;
            }
            for (int line = 1; line <= LINE_LIMIT; line++) {
                for (int how = 0; how < waysToTry(here) && sheet.canFold(depth, line); how++) {
                    int more = sheet.tryFold(depth, line, how);
                    explore(sheet, depth + 1, effort + more, 100 * way + 10 * line + how);
                }
            }
        }

        /**
         * Ways 2 and 3 of a fold leave what ways 0 and 1 leave, but the whole of it turned over. All that can
         * follow is the same then (with other lines and ways), and so is what is read and what is out; so the
         * first way of several never has them. Only an order of layers knows which side is up, and for that
         * it is enough that the last fold can turn it.
         */
        private int waysToTry(Layout here) {
            return goal == LAYERED && here.cells() == 2 ? WAY_COUNT : WAY_COUNT / 2;
        }

        private boolean isHopeless(int effort) {
            boolean byEffort = goal != SHUT_SOON && goal != READ_MOST;
            return byEffort && found && effort > leastCost;
        }

        private boolean isReached(Sheet sheet, Layout here) {
            switch (goal) {
                case READ_ALL:
                    return here.cells() <= pocket && (here.readPanels() & set) == set;
                case READ_MOST:
                    return here.cells() <= pocket;
                case LAYERED:
                    return here.isShut() && liesAsWanted(here);
                default:
                    return here.isShut() && here.showsBack(sheet.coverPanel);
            }
        }

        private boolean liesAsWanted(Layout here) {
            for (int p = 0; p < PANEL_COUNT; p++) {
                if (here.layerOf[p] != layerWanted[p]) {
                    return false;
                }
            }
            return true;
        }

        private int costOf(Layout here, int made, int effort) {
            switch (goal) {
                case SHUT_SOON:
                    return made;
                case READ_MOST:
                    return PANEL_COUNT - Integer.bitCount(here.readPanels() & set);
                default:
                    return effort;
            }
        }

        private void offer(int cost, int way) {
            if (!found || cost < leastCost || cost == leastCost && way < leastWay) {
                found = true;
                leastCost = cost;
                leastWay = way;
            }
        }
    }

    /** The letters of a map that is being told. */
    private static final class Letters {

        private final int[] signs = new int[LETTER_LIMIT];
        private int size;

        Letters() {
            size = 0;
        }

        boolean isFull() {
            return size >= LETTER_LIMIT;
        }

        int addLetter(int c) {
            if (size < LETTER_LIMIT) {
                signs[size] = c;
                size++;
            }
            return size;
        }

        void forget() {
            size = 0;
        }

        int signAt(int place) {
            return place >= 0 && place < size ? signs[place] : 0;
        }

        int digitAt(int place) {
            return signAt(place) - '0';
        }

        int kindAt(int place) {
            return KIND_LETTERS.indexOf((char) signAt(place));
        }

        int lengthBehind(int place) {
            return shapeBehind(signAt(place)).length();
        }

        /** The place of the first letter with which no map can go on, -1 when there is none. */
        int firstWrongPlace() {
            if (size == 0) {
                return 0;
            }
            for (int place = 0; place < size; place += 1 + lengthBehind(place)) {
                String shape = shapeBehind(signAt(place));
                if (shape.isEmpty()) {
                    return place;
                }
                for (int i = 0; i < shape.length(); i++) {
                    int here = place + 1 + i;
                    if (here >= size || !fits(signs[here], shape.charAt(i))) {
                        return Math.min(here, size);
                    }
                }
            }
            return -1;
        }

        /** What stands behind the first letter of a statement: 0 a digit, k a kind's letter. */
        private static String shapeBehind(int head) {
            switch (head) {
                case 'k':
                    return "0k0;";
                case 'w':
                    return "000;";
                case 'f':
                    return "00;";
                case 'o':
                    return ";";
                case 'c':
                    return "0;";
                default:
                    return "";
            }
        }

        private static boolean fits(int sign, char form) {
            if (form == '0') {
                return sign >= '0' && sign <= '9';
            }
            return form == 'k' ? KIND_LETTERS.indexOf((char) sign) >= 0 : sign == form;
        }
    }

    /** The draws of the maps by lot. */
    private static final class Draws {

        private static final int WITHOUT_SIGN = 0x7fffffff;

        private int seed;
        /** Of the map by lot now: which layout it has reached. */
        private int depth;

        Draws() {
            seed = 0;
            depth = 0;
        }

        int drawBelow(int bound) {
            seed = seed * 1664525 + 1013904223;
            return bound < 1 ? 0 : (seed & WITHOUT_SIGN) / 256 % bound;
        }
    }
}
