/** Each promise of the document by hand: ordinary inputs, the edges that it names, and wrong inputs. */
public final class PromisesTest {
    private static final int LEAST = Integer.MIN_VALUE;
    private static final int MOST = Integer.MAX_VALUE;
    private static int wrong = 0;

    public static void main(String[] args) {
        newObject();
        sheetSides();
        boxNumbersAndLimits();
        boxRoom();
        frameNumbersAndLimits();
        boxesNearByCommonHeight();
        boxesNearByGap();
        boxesHangTogetherInChains();
        linesNearByLeftEnds();
        linesNearByGap();
        linesHangTogetherInChains();
        theWayWithFewerLines();
        findTakesWhatIsThere();
        findOnFullSheets();
        foundStaysTillTheNextFind();
        blockDetails();
        lineDetails();
        lineOrder();
        pointsForLines();
        pointsForPlace();
        pointsForSize();
        pointsOfStamps();
        pointsOfSenders();
        pointsInPanes();
        blockOrder();
        blockOrderByLeastBox();
        blockOrderTurned();
        placesAreNotExchangedInPoints();
        printedBlocks();
        printedByWidthsIfTurned();
        blockOfBoxes();
        candidatesWithPoints();
        clearing();
        System.out.println(wrong == 0 ? "PromisesTest: all as due" : "PromisesTest: " + wrong + " wrong");
        if (wrong != 0) {
            System.exit(1);
        }
    }

    private static void due(String what, long want, long got) {
        if (got != want) {
            wrong++;
            System.out.println(what + " answered " + got + ", due is " + want);
        }
    }

    private static void due(String what, boolean want, boolean got) {
        due(what, want ? 1 : 0, got ? 1 : 0);
    }

    /** A sheet with boxes, given as x, y, w, h in turn. */
    private static BlockFinder sheet(int width, int height, int... sides) {
        BlockFinder made = new BlockFinder(width, height);
        for (int i = 0; i + 3 < sides.length; i += 4) {
            due("number of a box", i / 4, made.box(sides[i], sides[i + 1], sides[i + 2], sides[i + 3]));
        }
        return made;
    }

    private static BlockFinder found(int width, int height, int... sides) {
        BlockFinder made = sheet(width, height, sides);
        made.find();
        return made;
    }

    private static void dueBlock(String name, BlockFinder f, int i, int... want) {
        for (int what = 0; what < want.length; what++) {
            due(name + ": block(" + i + ", " + what + ")", want[what], f.block(i, what));
        }
    }

    private static void dueLine(String name, BlockFinder f, int i, int k, int... want) {
        for (int what = 0; what < want.length; what++) {
            due(name + ": line(" + i + ", " + k + ", " + what + ")", want[what], f.line(i, k, what));
        }
    }

    // Promise 1

    private static void newObject() {
        BlockFinder f = new BlockFinder(100, 100);
        due("new: block", BlockFinder.UNKNOWN, f.block(0, 0));
        due("new: line", BlockFinder.UNKNOWN, f.line(0, 0, 0));
        due("new: points", BlockFinder.UNKNOWN, f.points(0));
        due("new: printed", false, f.printed(0));
        due("new: turned", false, f.turned());
        due("new: blockOf", BlockFinder.UNKNOWN, f.blockOf(0));
        due("new: candidates", 0, f.candidates());
        due("new: clear", 0, f.clear());
        due("new: find", 0, f.find());
        due("new: first box", 0, f.box(0, 0, 1, 1));
        due("new: first pane", 0, f.frame(0, 0, 1, 1));
    }

    private static void sheetSides() {
        int[][] givenAndMade = {
            {LEAST, 1}, {-1, 1}, {0, 1}, {1, 1}, {2, 2}, {4095, 4095}, {4096, 4096}, {4097, 4096}, {MOST, 4096}};
        for (int[] side : givenAndMade) {
            BlockFinder wide = new BlockFinder(side[0], 7);
            due("width " + side[0] + " filled", 0, wide.box(0, 0, side[1], 7));
            due("width " + side[0] + " passed", BlockFinder.OUTSIDE, wide.box(0, 0, side[1] + 1, 7));
            due("height beside width " + side[0], BlockFinder.OUTSIDE, wide.box(0, 0, 1, 8));
            BlockFinder high = new BlockFinder(7, side[0]);
            due("height " + side[0] + " filled", 0, high.box(0, 0, 7, side[1]));
            due("height " + side[0] + " passed", BlockFinder.OUTSIDE, high.box(0, 0, 7, side[1] + 1));
            due("width beside height " + side[0], BlockFinder.OUTSIDE, high.box(0, 0, 8, 1));
        }
    }

    // Promises 2 and 3

    private static final int[][] ON_A_SHEET_OF_30_BY_20 = {
        {0, 0, 1, 1}, {29, 19, 1, 1}, {0, 0, 30, 20}, {10, 5, 20, 15}};

    private static final int[][] NOT_ON_A_SHEET_OF_30_BY_20 = {
        {0, 0, 0, 1}, {0, 0, 1, 0}, {5, 5, -1, 3}, {5, 5, 3, -1}, {-1, 0, 1, 1}, {0, -1, 1, 1},
        {30, 0, 1, 1}, {0, 20, 1, 1}, {29, 0, 2, 1}, {0, 19, 1, 2}, {0, 0, 31, 20}, {0, 0, 30, 21},
        {10, 5, 21, 15}, {10, 5, 20, 16}, {MOST, 0, 1, 1}, {0, MOST, 1, 1}, {1, 0, MOST, 1},
        {0, 1, 1, MOST}, {MOST, 0, MOST, 1}, {0, MOST, 1, MOST}, {LEAST, 0, 1, 1}, {0, LEAST, 1, 1},
        {0, 0, LEAST, 1}, {0, 0, 1, LEAST}, {LEAST, 0, MOST, 1}, {0, LEAST, 1, MOST}, {MOST, 0, LEAST, 1},
        {0, MOST, 1, LEAST}};

    private static void boxNumbersAndLimits() {
        BlockFinder f = new BlockFinder(30, 20);
        int number = 0;
        for (int[] r : ON_A_SHEET_OF_30_BY_20) {
            due("box on the sheet", number++, f.box(r[0], r[1], r[2], r[3]));
        }
        for (int[] r : NOT_ON_A_SHEET_OF_30_BY_20) {
            due("box " + java.util.Arrays.toString(r), BlockFinder.OUTSIDE, f.box(r[0], r[1], r[2], r[3]));
        }
        due("box behind refusals", number++, f.box(3, 3, 3, 3));
        due("boxes in all", number, f.clear());
    }

    private static void boxRoom() {
        BlockFinder f = new BlockFinder(64, 64);
        for (int i = 0; i < 64; i++) {
            due("box " + i, i, f.box(i, i, 1, 1));
        }
        due("box 64", BlockFinder.ROOM, f.box(0, 0, 1, 1));
        due("OUTSIDE goes before ROOM", BlockFinder.OUTSIDE, f.box(0, 0, 65, 1));
        due("a pane beside full boxes", 0, f.frame(0, 0, 1, 1));
        due("64 boxes", 64, f.clear());
        due("box behind clear", 0, f.box(0, 0, 1, 1));
    }

    private static void frameNumbersAndLimits() {
        BlockFinder f = new BlockFinder(30, 20);
        int number = 0;
        for (int[] r : ON_A_SHEET_OF_30_BY_20) {
            due("pane on the sheet", number++, f.frame(r[0], r[1], r[2], r[3]));
        }
        for (int[] r : NOT_ON_A_SHEET_OF_30_BY_20) {
            due("pane " + java.util.Arrays.toString(r), BlockFinder.OUTSIDE, f.frame(r[0], r[1], r[2], r[3]));
        }
        while (number < 8) {
            due("pane", number++, f.frame(1, 1, 1, 1));
        }
        due("pane 8", BlockFinder.ROOM, f.frame(1, 1, 1, 1));
        due("OUTSIDE goes before ROOM", BlockFinder.OUTSIDE, f.frame(1, 1, 30, 1));
        due("panes are no boxes", 0, f.clear());
        due("clear leaves the panes", BlockFinder.ROOM, f.frame(1, 1, 1, 1));
        due("a box beside full panes", 0, f.box(1, 1, 1, 1));
    }

    // Terms, by promise 4. Boxes side by side keep a sheet standing, if no width is in common.

    private static void boxesNearByCommonHeight() {
        due("half of the lesser height in common", 1, sheet(200, 200, 0, 0, 10, 10, 12, 8, 10, 4).find());
        due("less than half of it", 2, sheet(200, 200, 0, 0, 10, 10, 12, 9, 10, 4).find());
        due("half of an odd height", 1, sheet(200, 200, 0, 0, 10, 10, 12, 7, 10, 5).find());
        due("less than half of an odd height", 2, sheet(200, 200, 0, 0, 10, 10, 12, 8, 10, 5).find());
        due("the higher box comes second", 1, sheet(200, 200, 12, 8, 10, 4, 0, 0, 10, 10).find());
    }

    private static void boxesNearByGap() {
        due("gap of 15 at height 10", 1, sheet(200, 200, 0, 0, 10, 10, 25, 0, 10, 6).find());
        due("gap of 16 at height 10", 2, sheet(200, 200, 0, 0, 10, 10, 26, 0, 10, 6).find());
        due("gap of 10 at height 7", 1, sheet(200, 200, 0, 0, 10, 7, 20, 0, 10, 7).find());
        due("gap of 11 at height 7", 2, sheet(200, 200, 0, 0, 10, 7, 21, 0, 10, 7).find());
        due("the right box comes first", 1, sheet(200, 200, 25, 0, 10, 6, 0, 0, 10, 10).find());
        due("one within the other", 1, sheet(200, 200, 0, 0, 50, 50, 20, 20, 5, 5).find());
    }

    private static void boxesHangTogetherInChains() {
        BlockFinder f = found(200, 200, 0, 0, 10, 10, 60, 0, 10, 10, 40, 0, 10, 10, 20, 0, 10, 10);
        dueLine("a chain", f, 0, 0, 0, 0, 70, 10, 4, 0);
        BlockFinder late = found(200, 200, 60, 0, 10, 10, 20, 0, 10, 10, 80, 0, 10, 10, 0, 0, 10, 10, 40, 0, 10, 10);
        dueLine("two chains joined by the last box", late, 0, 0, 0, 0, 90, 10, 5, 0);
    }

    // Lines one below the other stay lines of a sheet that stands, if they are narrow.

    private static void linesNearByLeftEnds() {
        due("left ends differ by the greater height", 1, sheet(200, 200, 50, 0, 2, 10, 60, 15, 2, 6).find());
        due("by one more", 2, sheet(200, 200, 50, 0, 2, 10, 61, 15, 2, 6).find());
        due("to the left", 1, sheet(200, 200, 50, 0, 2, 10, 40, 15, 2, 6).find());
        due("by one more to the left", 2, sheet(200, 200, 50, 0, 2, 10, 39, 15, 2, 6).find());
        due("the lower line is higher", 1, sheet(200, 200, 50, 0, 2, 6, 60, 15, 2, 10).find());
        BlockFinder f = found(200, 200, 50, 0, 2, 10, 60, 15, 2, 6);
        due("left ends count in a sheet that stands", false, f.turned());
        due("and there are two lines", 2, f.block(0, 4));
    }

    private static void linesNearByGap() {
        due("gap of twice the lesser height", 1, sheet(200, 200, 50, 0, 2, 10, 50, 22, 2, 6).find());
        due("one more", 2, sheet(200, 200, 50, 0, 2, 10, 50, 23, 2, 6).find());
        due("the lesser height above", 1, sheet(200, 200, 50, 0, 2, 6, 50, 18, 2, 10).find());
        due("one more below it", 2, sheet(200, 200, 50, 0, 2, 6, 50, 19, 2, 10).find());
        due("lower line first", 1, sheet(200, 200, 50, 22, 2, 6, 50, 0, 2, 10).find());
    }

    private static void linesHangTogetherInChains() {
        BlockFinder f = found(200, 200, 50, 0, 2, 10, 58, 42, 2, 10, 50, 14, 2, 10, 50, 28, 2, 10);
        due("a chain of lines", 1, f.find());
        dueBlock("a chain of lines", f, 0, 50, 0, 10, 52, 4, 4);
    }

    private static void theWayWithFewerLines() {
        BlockFinder beside = found(200, 200, 0, 0, 10, 10, 12, 0, 10, 10);
        due("side by side", false, beside.turned());
        due("side by side: lines", 1, beside.block(0, 4));
        BlockFinder below = found(200, 200, 0, 0, 10, 10, 0, 12, 10, 10);
        due("one below the other", true, below.turned());
        due("one below the other: lines", 1, below.block(0, 4));
        BlockFinder square = found(200, 200, 0, 0, 10, 10, 12, 0, 10, 10, 0, 12, 10, 10, 12, 12, 10, 10);
        due("as many lines", false, square.turned());
        due("one box", false, found(200, 200, 0, 0, 10, 10).turned());
        BlockFinder again = below;
        again.clear();
        due("turned stays with what was found", true, again.turned());
        again.find();
        due("nothing is turned", false, again.turned());
        BlockFinder turnedLines = found(200, 200, 20, 50, 10, 2, 20, 56, 10, 2, 5, 60, 6, 2);
        due("turned: upper ends differ by the width", 1, turnedLines.find());
        BlockFinder apart = found(200, 200, 20, 50, 10, 2, 20, 53, 10, 2, 5, 61, 6, 2);
        due("turned: upper ends differ by more", 2, apart.find());
    }

    // Promise 4

    private static void findTakesWhatIsThere() {
        BlockFinder f = new BlockFinder(200, 200);
        due("no boxes", 0, f.find());
        f.frame(0, 0, 100, 100);
        due("panes alone", 0, f.find());
        f.box(10, 10, 5, 5);
        due("one box", 1, f.find());
        due("found again", 1, f.find());
        f.box(150, 150, 5, 5);
        due("two boxes apart", 2, f.find());
        f.box(10, 10, 5, 5);
        due("a box twice", 2, f.find());
        f.clear();
        due("cleared", 0, f.find());
    }

    private static void findOnFullSheets() {
        BlockFinder apart = new BlockFinder(4096, 4096);
        BlockFinder row = new BlockFinder(4096, 4096);
        BlockFinder column = new BlockFinder(4096, 4096);
        BlockFinder stack = new BlockFinder(4096, 4096);
        for (int i = 0; i < 64; i++) {
            // The grid is filled from its last place on, so that numbers and order go against each other.
            apart.box(2100 + 100 * ((63 - i) % 8), 2100 + 100 * ((63 - i) / 8), 4, 4);
            row.box(60 * (63 - i), 2000, 10, 40);
            column.box(2000, 60 * (63 - i), 40, 10);
            stack.box(2000, 60 * (63 - i), 2, 40);
        }
        for (int i = 0; i < 8; i++) {
            apart.frame(2100 + i, 2100, 10, 10);
        }
        due("64 blocks", 64, apart.find());
        due("64 candidates", 64, apart.candidates());
        for (int i = 0; i < 64; i++) {
            due("block of box " + i + " of 64", 63 - i, apart.blockOf(i));
            // Two details of each, to stay below the 512 calls that an object answers.
            dueBlock("of 64", apart, i, 2100 + 100 * (i % 8), 2100 + 100 * (i / 8));
            due("points of 64", i == 0 ? 75 : 50, apart.points(i));
        }
        due("64 boxes in a row", 1, row.find());
        dueBlock("a row", row, 0, 0, 2000, 3790, 40, 1, 64);
        due("a row", false, row.turned());
        due("64 boxes in a column", 1, column.find());
        dueBlock("a column", column, 0, 2000, 0, 40, 3790, 1, 64);
        due("a column", true, column.turned());
        due("64 lines", 1, stack.find());
        dueBlock("a stack", stack, 0, 2000, 0, 2, 3820, 64, 64);
        for (int k = 0; k < 64; k++) {
            dueLine("a stack", stack, 0, k, 2000, 60 * k, 2, 40, 1, 63 - k);
        }
        due("no line 64", BlockFinder.NONE, stack.line(0, 64, 0));
    }

    private static void foundStaysTillTheNextFind() {
        BlockFinder f = found(200, 200, 10, 10, 10, 5);
        due("a sender", 0, f.points(0));
        f.box(150, 150, 5, 5);
        f.frame(0, 0, 100, 100);
        dueBlock("before the next find", f, 0, 10, 10, 10, 5, 1, 1);
        due("one block as before", BlockFinder.UNKNOWN, f.block(1, 0));
        due("points as before", 0, f.points(0));
        due("candidates as before", 0, f.candidates());
        f.find();
        due("points by the pane", 45, f.points(1));
        due("two candidates", 2, f.candidates());
    }

    // Promise 5

    private static void blockDetails() {
        BlockFinder f = found(200, 200, 50, 100, 2, 10, 54, 101, 30, 9, 48, 114, 3, 12);
        due("blocks", 1, f.find());
        dueBlock("details", f, 0, 48, 100, 36, 26, 2, 3);
        int[] noBlocks = {-1, 1, 64, MOST, LEAST};
        for (int i : noBlocks) {
            due("block " + i, BlockFinder.UNKNOWN, f.block(i, 0));
            due("UNKNOWN goes before OUTSIDE", BlockFinder.UNKNOWN, f.block(i, 6));
        }
        int[] noDetails = {-1, 6, MOST, LEAST};
        for (int what : noDetails) {
            due("block detail " + what, BlockFinder.OUTSIDE, f.block(0, what));
        }
    }

    // Promise 6

    private static void lineDetails() {
        BlockFinder f = found(200, 200, 48, 114, 3, 12, 54, 101, 30, 9, 50, 100, 2, 10);
        dueLine("upper line", f, 0, 0, 50, 100, 34, 10, 2, 1);
        dueLine("lower line", f, 0, 1, 48, 114, 3, 12, 1, 0);
        int[] noBlocks = {-1, 1, 64, MOST, LEAST};
        for (int i : noBlocks) {
            due("line of block " + i, BlockFinder.UNKNOWN, f.line(i, 0, 0));
            due("UNKNOWN goes first", BlockFinder.UNKNOWN, f.line(i, 9, 9));
        }
        int[] noDetails = {-1, 6, MOST, LEAST};
        for (int what : noDetails) {
            due("line detail " + what, BlockFinder.OUTSIDE, f.line(0, 0, what));
            due("OUTSIDE goes before NONE", BlockFinder.OUTSIDE, f.line(0, 2, what));
        }
        int[] noLines = {-1, 2, 64, MOST, LEAST};
        for (int k : noLines) {
            due("line " + k, BlockFinder.NONE, f.line(0, k, 5));
        }
    }

    private static void lineOrder() {
        BlockFinder byY = found(200, 200, 50, 28, 2, 10, 50, 0, 2, 10, 50, 14, 2, 10);
        due("least y first", 1, byY.line(0, 0, 5));
        due("then the next", 2, byY.line(0, 1, 5));
        due("greatest y last", 0, byY.line(0, 2, 5));
        // The same y: a gap of 7 at height 4 parts the upper boxes, the line below holds them together.
        BlockFinder byX = found(200, 200, 58, 0, 1, 4, 50, 0, 1, 4, 54, 7, 1, 4);
        due("the same y: one block", 1, byX.find());
        due("the same y: less x first", 1, byX.line(0, 0, 5));
        due("the same y: more x", 0, byX.line(0, 1, 5));
        due("then the lower line", 2, byX.line(0, 2, 5));
        // The same corner: three boxes that rise to the right, and one alone where their rectangle begins.
        BlockFinder last = found(200, 200, 0, 10, 10, 10, 12, 5, 10, 10, 24, 0, 10, 10, 0, 0, 2, 2);
        due("the same corner: the least box first", 0, last.line(0, 0, 5));
        due("the same corner: the last box last", 3, last.line(0, 1, 5));
        BlockFinder first = found(200, 200, 0, 0, 2, 2, 0, 10, 10, 10, 12, 5, 10, 10, 24, 0, 10, 10);
        due("the same corner: the first box first", 0, first.line(0, 0, 5));
        due("the same corner: the others last", 1, first.line(0, 1, 5));
        BlockFinder turned = found(200, 200, 28, 50, 10, 2, 0, 54, 10, 2, 14, 52, 10, 2, 0, 50, 10, 2);
        due("turned", true, turned.turned());
        due("turned: least x first", 1, turned.line(0, 0, 5));
        due("turned: then the next x", 2, turned.line(0, 1, 5));
        due("turned: greatest x last", 0, turned.line(0, 2, 5));
    }

    // Promise 7

    /** So many narrow lines in the middle of a sheet that is 400 wide and 400 high. */
    private static BlockFinder stack(int lines) {
        BlockFinder f = new BlockFinder(400, 400);
        for (int i = 0; i < lines; i++) {
            f.box(100, 100 + 14 * i, 2, 10);
        }
        f.find();
        return f;
    }

    private static void pointsForLines() {
        int[] want = {20, 40, 40, 40, 40, 40, 20};
        for (int lines = 1; lines <= want.length; lines++) {
            BlockFinder f = stack(lines);
            due("lines of a stack", lines, f.block(0, 4));
            due("points of " + lines + " lines", want[lines - 1], f.points(0));
        }
        due("points of no block", BlockFinder.UNKNOWN, stack(1).points(1));
        due("points of block -1", BlockFinder.UNKNOWN, stack(1).points(-1));
        due("points of the greatest block", BlockFinder.UNKNOWN, stack(1).points(MOST));
        due("points of the least block", BlockFinder.UNKNOWN, stack(1).points(LEAST));
    }

    private static void pointsForPlace() {
        due("middle at half the width", 35, found(100, 100, 45, 40, 10, 10).points(0));
        due("middle before half the width", 20, found(100, 100, 44, 40, 11, 10).points(0));
        due("middle at half an odd width", 35, found(101, 100, 45, 40, 11, 10).points(0));
        due("middle at half the height", 35, found(100, 100, 30, 45, 10, 10).points(0));
        due("middle before half the height", 20, found(100, 100, 30, 44, 10, 11).points(0));
        due("middle of both", 50, found(100, 100, 45, 45, 10, 10).points(0));
    }

    private static void pointsForSize() {
        due("half of the sheet", 50, found(100, 100, 0, 50, 100, 50).points(0));
        due("more than half", 40, found(100, 100, 0, 49, 100, 51).points(0));
        due("just below half of an odd sheet", 50, found(5, 5, 1, 2, 4, 3).points(0));
        due("all of the largest sheet", 40, found(4096, 4096, 0, 0, 4096, 4096).points(0));
        due("half of the largest sheet", 50, found(4096, 4096, 0, 2048, 4096, 2048).points(0));
    }

    private static void pointsOfStamps() {
        due("a stamp", 0, found(100, 99, 75, 20, 25, 13).points(0));
        due("left of the right quarter", 35, found(100, 99, 74, 20, 25, 13).points(0));
        due("below the upper third", 35, found(100, 99, 75, 20, 25, 14).points(0));
        due("an odd width: in the quarter", 0, found(101, 99, 76, 20, 25, 13).points(0));
        due("an odd width: not in it", 35, found(101, 99, 75, 20, 25, 13).points(0));
        due("two lines are a stamp too", 0, found(400, 400, 320, 0, 2, 10, 320, 14, 2, 10).points(0));
    }

    private static void pointsOfSenders() {
        due("a sender", 0, found(100, 100, 0, 0, 50, 25).points(0));
        due("right of the left half", 20, found(100, 100, 0, 0, 51, 24).points(0));
        due("below the upper quarter", 20, found(100, 100, 0, 0, 49, 26).points(0));
        due("an odd height: not in it", 20, found(100, 99, 0, 0, 50, 25).points(0));
        due("an odd width: not in it", 20, found(99, 100, 0, 0, 50, 25).points(0));
    }

    private static int pointsWithPane(int[] box, int... pane) {
        BlockFinder f = sheet(100, 100, box);
        f.frame(90, 90, 1, 1);
        f.frame(pane[0], pane[1], pane[2], pane[3]);
        f.find();
        return f.points(0);
    }

    private static void pointsInPanes() {
        int[] middle = {30, 30, 10, 10};
        due("in a pane that it fills", 45, pointsWithPane(middle, 30, 30, 10, 10));
        due("in a wide pane", 45, pointsWithPane(middle, 0, 0, 100, 100));
        due("over its left end", 20, pointsWithPane(middle, 31, 30, 10, 10));
        due("over its upper end", 20, pointsWithPane(middle, 30, 31, 10, 10));
        due("over its right end", 20, pointsWithPane(middle, 30, 30, 9, 10));
        due("over its lower end", 20, pointsWithPane(middle, 30, 30, 10, 9));
        due("a sender in a pane", 45, pointsWithPane(new int[] {0, 0, 50, 25}, 0, 0, 50, 25));
        due("a stamp in a pane", 60, pointsWithPane(new int[] {75, 0, 25, 33}, 75, 0, 25, 33));
        due("a sender not quite in a pane", 0, pointsWithPane(new int[] {0, 0, 50, 25}, 0, 0, 50, 24));
        BlockFinder twice = sheet(100, 100, 30, 30, 10, 10);
        twice.frame(20, 20, 50, 50);
        twice.frame(25, 25, 50, 50);
        twice.find();
        due("in two panes", 45, twice.points(0));
    }

    private static void blockOrder() {
        // A sender, a block of 20, one of 35, one of 50 points.
        BlockFinder f = found(200, 200, 0, 0, 10, 10, 20, 70, 10, 10, 150, 70, 10, 10, 150, 150, 10, 10);
        due("blocks", 4, f.find());
        int[] points = {50, 35, 20, 0};
        for (int i = 0; i < 4; i++) {
            due("points in order", points[i], f.points(i));
            due("block of box", 3 - i, f.blockOf(i));
        }
        // The last two stand in one row, so there are fewer lines than if turned.
        BlockFinder same = found(400, 400, 300, 260, 10, 10, 210, 350, 10, 10, 210, 300, 10, 10, 222, 300, 10, 10,
                350, 260, 10, 10);
        due("stands", false, same.turned());
        due("the same points: by y", 3, same.blockOf(1));
        due("the same points: by y too", 2, same.blockOf(2));
        due("the same y: by x", 0, same.blockOf(0));
        due("the same y: more x", 1, same.blockOf(4));
        due("y goes before x, by one", 1, found(400, 400, 210, 301, 9, 9, 350, 300, 9, 9).blockOf(0));
    }

    private static void blockOrderByLeastBox() {
        // Three lines that go down to the left and a small box in the corner of their rectangle: 45 points each.
        int[][] orders = {{40, 0, 2, 20, 20, 22, 2, 20, 0, 44, 2, 20, 0, 0, 1, 2},
            {0, 0, 1, 2, 0, 44, 2, 20, 20, 22, 2, 20, 40, 0, 2, 20}};
        for (int[] sides : orders) {
            BlockFinder f = sheet(42, 100, sides);
            f.frame(0, 0, 2, 2);
            due("the same corner: blocks", 2, f.find());
            due("the same corner: points", 45, f.points(0));
            due("the same corner: points too", 45, f.points(1));
            due("the same corner: the least box's block", 0, f.blockOf(0));
            due("the same corner: the last box's block", 1, f.blockOf(3));
        }
    }

    private static void blockOrderTurned() {
        BlockFinder f = found(400, 400, 260, 300, 10, 10, 350, 210, 10, 10, 300, 210, 10, 10, 300, 222, 10, 10,
                260, 350, 10, 10);
        due("turned", true, f.turned());
        due("turned: by x", 3, f.blockOf(1));
        due("turned: by x too", 2, f.blockOf(2));
        due("turned, the same x: by y", 0, f.blockOf(0));
        due("turned, the same x: more y", 1, f.blockOf(4));
    }

    private static void placesAreNotExchangedInPoints() {
        BlockFinder sender = found(200, 400, 0, 20, 20, 10, 0, 32, 20, 10);
        due("a turned sender", true, sender.turned());
        dueBlock("a turned sender", sender, 0, 0, 20, 20, 22, 1, 2);
        dueLine("a turned sender", sender, 0, 0, 0, 20, 20, 22, 2, 0);
        due("is a sender", 0, sender.points(0));
        BlockFinder low = found(400, 200, 20, 150, 20, 10, 20, 162, 20, 10);
        due("turned at the left lower end", true, low.turned());
        due("is no stamp there", 35, low.points(0));
        BlockFinder inPane = sheet(400, 200, 20, 150, 20, 10, 20, 162, 20, 10);
        inPane.frame(20, 150, 20, 22);
        inPane.find();
        due("turned in a pane", 60, inPane.points(0));
    }

    // Promise 8

    private static void printedBlocks() {
        due("one box", true, found(200, 200, 50, 50, 10, 10).printed(0));
        due("a quarter lower", true, found(200, 200, 50, 50, 10, 12, 62, 50, 10, 9).printed(0));
        due("more than a quarter lower", false, found(200, 200, 50, 50, 10, 12, 62, 50, 10, 8).printed(0));
        due("a quarter of an odd height", false, found(200, 200, 50, 50, 10, 11, 62, 50, 10, 8).printed(0));
        due("the lower box first", true, found(200, 200, 50, 50, 10, 9, 62, 50, 10, 12).printed(0));
        due("widths do not count", true, found(200, 200, 50, 50, 10, 10, 62, 50, 90, 10).printed(0));
        due("over all lines", false, found(200, 200, 50, 50, 2, 12, 50, 66, 2, 8).printed(0));
        BlockFinder two = found(200, 200, 50, 50, 10, 12, 150, 150, 10, 3);
        due("each block for itself", true, two.printed(0) && two.printed(1));
        int[] noBlocks = {-1, 2, 64, MOST, LEAST};
        for (int i : noBlocks) {
            due("no block " + i, false, two.printed(i));
        }
        two.clear();
        due("printed stays", true, two.printed(0));
    }

    private static void printedByWidthsIfTurned() {
        BlockFinder printed = found(200, 200, 50, 50, 12, 10, 50, 62, 9, 40);
        due("turned", true, printed.turned());
        due("a quarter narrower", true, printed.printed(0));
        due("more than a quarter narrower", false, found(200, 200, 50, 50, 12, 10, 50, 62, 8, 10).printed(0));
    }

    // Promise 10

    private static void blockOfBoxes() {
        BlockFinder f = sheet(200, 200, 0, 0, 10, 10, 150, 150, 10, 10);
        due("before any find", BlockFinder.NONE, f.blockOf(0));
        f.find();
        due("the sender's box", 1, f.blockOf(0));
        due("the other box", 0, f.blockOf(1));
        int[] noBoxes = {-1, 2, 64, MOST, LEAST};
        for (int i : noBoxes) {
            due("no box " + i, BlockFinder.UNKNOWN, f.blockOf(i));
        }
        f.box(0, 0, 10, 10);
        due("behind the latest find", BlockFinder.NONE, f.blockOf(2));
        due("the others as before", 1, f.blockOf(0));
        f.find();
        due("found then", 1, f.blockOf(2));
        f.clear();
        due("cleared", BlockFinder.UNKNOWN, f.blockOf(0));
        f.box(0, 0, 10, 10);
        due("a new box 0 behind the latest find", BlockFinder.NONE, f.blockOf(0));
        due("no box 1 any more", BlockFinder.UNKNOWN, f.blockOf(1));
    }

    // Promise 11

    private static void candidatesWithPoints() {
        due("a sender alone", 0, found(200, 200, 0, 0, 10, 10).candidates());
        due("a stamp alone", 0, found(200, 200, 180, 0, 10, 10).candidates());
        due("one among others", 1, found(200, 200, 0, 0, 10, 10, 180, 0, 10, 10, 100, 100, 9, 9).candidates());
        due("two", 2, found(200, 200, 100, 100, 9, 9, 20, 150, 9, 9).candidates());
        BlockFinder f = found(200, 200, 100, 100, 9, 9);
        f.clear();
        due("candidates stay", 1, f.candidates());
        f.find();
        due("none without boxes", 0, f.candidates());
    }

    // Promise 12

    private static void clearing() {
        BlockFinder f = sheet(200, 200, 50, 100, 2, 10, 54, 101, 30, 9, 48, 114, 3, 12);
        f.frame(40, 90, 60, 60);
        f.find();
        due("three boxes go", 3, f.clear());
        due("none is left", 0, f.clear());
        dueBlock("found stays", f, 0, 48, 100, 36, 26, 2, 3);
        dueLine("found stays", f, 0, 1, 48, 114, 3, 12, 1, 2);
        due("points stay", 80, f.points(0));
        due("new boxes from 0", 0, f.box(50, 100, 10, 10));
        dueBlock("found stays beside new boxes", f, 0, 48, 100, 36, 26, 2, 3);
        due("one block anew", 1, f.find());
        dueBlock("anew", f, 0, 50, 100, 10, 10, 1, 1);
        due("panes stay", 60, f.points(0));
    }
}
