/**
 * Each sentence of the document's "Terms" that names a boundary case, with a test of its own: the case at
 * its end, and the next one on either side of it. What goes wrong is told under the sentence's words.
 */
public final class TermsBoundariesTest extends Boundaries {
    public static void main(String[] args) {
        theSheet();
        boxesAndLines();
        linesAndBlocks();
        points();
        orderAndPrint();
        end("TermsBoundariesTest");
    }

    // Terms: the sheet, its boxes and its panes

    private static void theSheet() {
        says("An object is used for at most 512 calls after it has been made", TermsBoundariesTest::use512Calls);
        says("places are counted from its left upper corner", TermsBoundariesTest::placesFromTheCorner);
        says("BOXES (64 at most)", TermsBoundariesTest::boxesAtMost);
        says("PANES (8 at most)", TermsBoundariesTest::panesAtMost);
        says("are rectangles on it, numbered 0, 1, .. as they come", TermsBoundariesTest::numberedAsTheyCome);
        says("THE RECTANGLE of some is the least one in which all lie", TermsBoundariesTest::theRectangleOfSome);
        says("exchanged in what is said of .. being near, and of their order, nowhere else",
                TermsBoundariesTest::nowhereElseExchanged);
        says("REFUSALS are answers, of several the first one here", TermsBoundariesTest::theFirstRefusal);
    }

    private static void use512Calls() {
        BlockFinder f = new BlockFinder(4096, 4096);
        int calls = 0;
        for (int i = 0; i < 8; i++, calls++) {
            due("frame", i, f.frame(i, i, 10, 10));
        }
        for (int round = 0; round < 7; round++) {
            for (int i = 0; i < 64; i++, calls++) {
                due("box", i, f.box(60 * i, 2000 + round, 10, 40));
            }
            due("find", 1, f.find());
            due("clear", 64, f.clear());
            calls += 2;
        }
        while (calls < 511) {
            due("candidates", 1, f.candidates());
            calls++;
        }
        due("the 512th call", 64, f.block(0, 5));
    }

    private static void placesFromTheCorner() {
        BlockFinder f = foundOn(200, 300, 0, 0, 3, 4);
        dueBlock("in the left upper corner", f, 0, 0, 0, 3, 4);
        due("it is the sender's corner", 0, f.points(0));
        f = foundOn(200, 300, 197, 296, 3, 4);
        dueBlock("in the right lower corner", f, 0, 197, 296, 3, 4);
        due("it is not", 50, f.points(0));
    }

    private static void boxesAtMost() {
        BlockFinder f = new BlockFinder(64, 64);
        for (int i = 0; i < 64; i++) {
            due("box " + i, i, f.box(i, 63 - i, 1, 1));
        }
        due("the 65th box", ROOM, f.box(0, 0, 1, 1));
        due("the 65th box again", ROOM, f.box(63, 63, 1, 1));
        due("the box of number 63", NONE, f.blockOf(63));
        due("no box of number 64", UNKNOWN, f.blockOf(64));
        due("blocks found", 1, f.find());
        due("boxes found", 64, f.block(0, 5));
        due("boxes that go", 64, f.clear());
    }

    private static void panesAtMost() {
        BlockFinder f = new BlockFinder(100, 100);
        for (int i = 0; i < 7; i++) {
            due("pane " + i, i, f.frame(90, 90, 1 + i, 1));
        }
        due("the eighth pane", 7, f.frame(10, 10, 20, 10));
        due("the ninth pane", ROOM, f.frame(40, 10, 5, 10));
        f.box(10, 10, 20, 10);
        f.find();
        due("the eighth pane counts", 45, f.points(0));
        f.clear();
        f.box(40, 10, 5, 10);
        f.find();
        due("the ninth does not", 0, f.points(0));
    }

    private static void numberedAsTheyCome() {
        BlockFinder f = new BlockFinder(100, 100);
        due("box", 0, f.box(50, 50, 10, 10));
        due("pane", 0, f.frame(50, 50, 10, 10));
        due("the same box", 1, f.box(50, 50, 10, 10));
        due("no box", OUTSIDE, f.box(50, 50, 10, 51));
        due("no pane", OUTSIDE, f.frame(50, 50, 51, 10));
        due("a lesser box", 2, f.box(0, 0, 1, 1));
        due("the same pane", 1, f.frame(50, 50, 10, 10));
        f.find();
        due("box behind find", 3, f.box(0, 0, 1, 1));
        due("pane behind find", 2, f.frame(0, 0, 1, 1));
        f.clear();
        due("box behind clear", 0, f.box(0, 0, 1, 1));
        due("pane behind clear", 3, f.frame(0, 0, 1, 1));
    }

    private static void theRectangleOfSome() {
        int[] one = {50, 50, 10, 10};
        dueBlock("one alone", found(one), 0, 50, 50, 10, 10, 1, 1);
        dueBlock("the same twice", found(50, 50, 10, 10, 50, 50, 10, 10), 0, 50, 50, 10, 10, 1, 2);
        dueBlock("one within", found(50, 50, 10, 10, 51, 51, 8, 8), 0, 50, 50, 10, 10, 1, 2);
        dueBlock("one around", found(51, 51, 8, 8, 50, 50, 10, 10), 0, 50, 50, 10, 10, 1, 2);
        dueBlock("more to the left", found(50, 50, 10, 10, 49, 50, 10, 10), 0, 49, 50, 11, 10, 1, 2);
        dueBlock("more to the right", found(50, 50, 10, 10, 51, 50, 10, 10), 0, 50, 50, 11, 10, 1, 2);
        dueBlock("more above", found(50, 50, 10, 10, 50, 49, 10, 10), 0, 50, 49, 10, 11, 1, 2);
        dueBlock("more below", found(50, 50, 10, 10, 50, 51, 10, 10), 0, 50, 50, 10, 11, 1, 2);
        dueLine("a line's", found(50, 50, 10, 10, 62, 47, 11, 10), 0, 0, 50, 47, 23, 13, 2, 0);
        dueBlock("all of the sheet", found(0, 0, 200, 200), 0, 0, 0, 200, 200, 1, 1);
    }

    private static void nowhereElseExchanged() {
        BlockFinder f = foundOn(400, 100, 310, 5, 60, 10, 310, 17, 60, 10);
        due("turned", true, f.turned());
        dueBlock("x, y, width and height", f, 0, 310, 5, 60, 22, 1, 2);
        dueLine("those of a line", f, 0, 0, 310, 5, 60, 22, 2, 0);
        due("a turned stamp", 0, f.points(0));
        f = foundOn(400, 1000, 5, 210, 10, 30, 5, 242, 10, 8);
        due("a turned sender at its end: turned", true, f.turned());
        due("a turned sender at its end", 0, f.points(0));
        f = foundOn(400, 1000, 5, 258, 10, 20, 5, 280, 10, 20);
        due("a sender, if it were exchanged: turned", true, f.turned());
        due("a sender, if it were exchanged", 20, f.points(0));
        int[] low = {20, 150, 20, 10, 20, 162, 20, 10};
        f = foundOn(400, 200, low);
        due("a stamp, if it were exchanged: turned", true, f.turned());
        due("a stamp, if it were exchanged", 35, f.points(0));
        f = foundOn(400, 200, 0, 50, 100, 100, 0, 152, 100, 8);
        due("x, y of the middle: turned", true, f.turned());
        due("x, y of the middle", 35, f.points(0));
        f = foundWithPane(400, 200, low, 20, 150, 20, 22);
        due("in a pane: turned", true, f.turned());
        due("in a pane", 60, f.points(0));
    }

    private static void theFirstRefusal() {
        BlockFinder f = new BlockFinder(100, 100);
        due("block: UNKNOWN before OUTSIDE, before any find", UNKNOWN, f.block(0, 6));
        due("line: UNKNOWN before OUTSIDE, before any find", UNKNOWN, f.line(0, 0, 6));
        for (int i = 0; i < 64; i++) {
            f.box(50, 50, 10, 10);
            f.frame(50, 50, 10, 10);
        }
        due("box: OUTSIDE before ROOM", OUTSIDE, f.box(50, 50, 0, 10));
        due("box: ROOM", ROOM, f.box(50, 50, 1, 10));
        due("frame: OUTSIDE before ROOM", OUTSIDE, f.frame(91, 50, 10, 10));
        due("frame: ROOM", ROOM, f.frame(90, 50, 10, 10));
        f.find();
        due("block: UNKNOWN before OUTSIDE", UNKNOWN, f.block(1, 6));
        due("block: OUTSIDE", OUTSIDE, f.block(0, 6));
        due("line: UNKNOWN before OUTSIDE and NONE", UNKNOWN, f.line(1, 1, 6));
        due("line: UNKNOWN before NONE", UNKNOWN, f.line(1, 1, 5));
        due("line: OUTSIDE before NONE", OUTSIDE, f.line(0, 1, 6));
        due("line: NONE", NONE, f.line(0, 1, 5));
    }

    // Terms: boxes near, lines

    private static void boxesAndLines() {
        says("twice the height that they have in common is at least the lesser of both heights",
                () -> boxesByCommonHeight(false));
        says("BOXES near, turned: the same of the width in common and widths", () -> boxesByCommonHeight(true));
        says("twice the gap between them is at most three times the greater of both heights",
                () -> boxesByGap(false));
        says("BOXES near, turned: the same of the gap downwards and widths", () -> boxesByGap(true));
        says("LINES are the sets of boxes that hang together by being near, one behind the other",
                () -> boxesInChains(false));
        says("LINES, turned: the same", () -> boxesInChains(true));
        says("THE WAY with fewer lines counts", TermsBoundariesTest::fewerLinesCount);
        says("the sheet stands if both have as many", TermsBoundariesTest::asManyLines);
    }

    /** Two boxes that have too little width in common to be near if turned, or the same exchanged. */
    private static void dueNear(String what, boolean near, boolean turned, int... two) {
        dueLines(what, near ? 1 : 2, turned && near, turned ? exchanged(two) : two);
    }

    private static void boxesByCommonHeight(boolean turned) {
        dueNear("2 of 4 in common", true, turned, 0, 100, 10, 10, 12, 108, 10, 4);
        dueNear("1 of 4", false, turned, 0, 100, 10, 10, 12, 109, 10, 4);
        dueNear("3 of 5", true, turned, 0, 100, 10, 10, 12, 107, 10, 5);
        dueNear("2 of 5", false, turned, 0, 100, 10, 10, 12, 108, 10, 5);
        dueNear("2 of 4, above", true, turned, 0, 100, 10, 10, 12, 98, 10, 4);
        dueNear("1 of 4, above", false, turned, 0, 100, 10, 10, 12, 97, 10, 4);
        dueNear("2 of 4, the lesser first", true, turned, 12, 108, 10, 4, 0, 100, 10, 10);
        dueNear("1 of 4, the lesser first", false, turned, 12, 109, 10, 4, 0, 100, 10, 10);
        dueNear("5 of 10, as high", true, turned, 0, 100, 10, 10, 12, 105, 10, 10);
        dueNear("4 of 10, as high", false, turned, 0, 100, 10, 10, 12, 106, 10, 10);
        dueNear("all of it", true, turned, 0, 100, 10, 10, 12, 103, 10, 4);
        dueNear("1 of 1", true, turned, 0, 100, 10, 10, 10, 109, 10, 1);
        dueNear("0 of 1: the corners meet", false, turned, 0, 100, 10, 10, 10, 110, 10, 1);
        dueNear("below 0", false, turned, 0, 100, 10, 10, 12, 115, 10, 4);
    }

    private static void boxesByGap(boolean turned) {
        dueNear("15 at 10", true, turned, 0, 100, 10, 10, 25, 100, 10, 6);
        dueNear("16 at 10", false, turned, 0, 100, 10, 10, 26, 100, 10, 6);
        dueNear("15 at 10, the higher behind", true, turned, 0, 100, 10, 6, 25, 100, 10, 10);
        dueNear("16 at 10, the higher behind", false, turned, 0, 100, 10, 6, 26, 100, 10, 10);
        dueNear("15 at 10, the right one first", true, turned, 25, 100, 10, 6, 0, 100, 10, 10);
        dueNear("16 at 10, the right one first", false, turned, 26, 100, 10, 6, 0, 100, 10, 10);
        dueNear("10 at 7", true, turned, 0, 100, 10, 7, 20, 100, 10, 7);
        dueNear("11 at 7", false, turned, 0, 100, 10, 7, 21, 100, 10, 7);
        dueNear("1 at 1", true, turned, 0, 100, 10, 1, 11, 100, 10, 1);
        dueNear("2 at 1", false, turned, 0, 100, 10, 1, 12, 100, 10, 1);
        dueNear("0", true, turned, 0, 100, 10, 1, 10, 100, 10, 1);
        // Wide boxes that lie over one another stay apart in the other way, by what they have in common there.
        dueNear("below 0", true, turned, 0, 100, 40, 10, 39, 100, 40, 10);
        dueNear("far below 0", true, turned, 0, 100, 100, 10, 70, 100, 100, 10);
    }

    private static void boxesInChains(boolean turned) {
        int[][] chains = {
            {0, 100, 10, 10, 40, 100, 10, 10, 20, 100, 10, 10},
            {20, 100, 10, 10, 0, 100, 10, 10, 40, 100, 10, 10},
            {0, 100, 10, 10, 20, 100, 10, 10, 40, 100, 10, 10}};
        for (int[] chain : chains) {
            BlockFinder f = found(turned ? exchanged(chain) : chain);
            due("turned", turned, f.turned());
            due("lines", 1, lines(f));
            due("boxes of the line", 3, f.line(0, 0, 4));
            due("its least box", 0, f.line(0, 0, 5));
        }
        int[] ends = {0, 100, 10, 10, 40, 100, 10, 10};
        dueLines("without the middle one", 2, false, turned ? exchanged(ends) : ends);
        int[] stairs = {0, 100, 10, 10, 12, 105, 10, 10, 24, 110, 10, 10, 36, 115, 10, 10};
        dueLines("stairs", 1, turned, turned ? exchanged(stairs) : stairs);
        int[] joined = {60, 100, 10, 10, 20, 100, 10, 10, 80, 100, 10, 10, 0, 100, 10, 10, 40, 100, 10, 10};
        dueLines("two chains, joined by the last", 1, turned, turned ? exchanged(joined) : joined);
        int[] mixed = {
            0, 100, 10, 10, 100, 100, 10, 10, 40, 100, 10, 10, 60, 100, 10, 10,
            120, 100, 10, 10, 20, 100, 10, 10, 80, 100, 10, 10};
        dueLines("a chain of mixed numbers", 1, turned, turned ? exchanged(mixed) : mixed);
    }

    private static void fewerLinesCount() {
        dueLines("1 standing, 2 turned", 1, false, 0, 100, 10, 10, 12, 100, 10, 10);
        dueLines("2 standing, 1 turned", 1, true, 100, 0, 10, 10, 100, 12, 10, 10);
        int[] fewerStanding = {
            0, 0, 10, 10, 12, 0, 10, 10, 24, 0, 10, 10,
            0, 12, 10, 10, 12, 12, 10, 10, 24, 12, 10, 10};
        dueLines("2 standing, 3 turned", 2, false, fewerStanding);
        dueLines("3 standing, 2 turned", 2, true, exchanged(fewerStanding));
    }

    private static void asManyLines() {
        dueLines("2 and 2", 2, false, 0, 0, 10, 10, 12, 0, 10, 10, 0, 12, 10, 10, 12, 12, 10, 10);
        dueLine("the standing ones", found(0, 0, 10, 10, 12, 0, 10, 10, 0, 22, 10, 10, 12, 22, 10, 10), 0, 0,
                0, 0, 22, 10, 2, 0);
        dueLines("1 and 1", 1, false, 50, 50, 10, 10);
        dueLines("1 and 1 of two boxes", 1, false, 50, 50, 10, 10, 52, 52, 10, 10);
        dueLines("2 and 2 apart", 2, false, 0, 0, 10, 10, 150, 150, 10, 10);
        due("none and none", false, found().turned());
    }

    // Terms: lines near, blocks

    private static void linesAndBlocks() {
        says("the left ends of their rectangles differ by the greater of both heights at most",
                TermsBoundariesTest::linesByLeftEnds);
        says("LINES near, turned: the same of upper ends and widths", TermsBoundariesTest::linesByUpperEndsTurned);
        says("the gap from one to the other .. is twice the lesser of both heights at most",
                TermsBoundariesTest::linesByGap);
        says("LINES near, turned: the same of the gap to the right and widths", TermsBoundariesTest::linesByGapTurned);
        says("BLOCKS are the sets of lines that hang together so", TermsBoundariesTest::linesInChains);
        says("Lines are in the order of y", TermsBoundariesTest::linesByY);
        says("then x, of their rectangles", TermsBoundariesTest::linesByX);
        says("then of their least boxes", TermsBoundariesTest::linesByLeastBox);
        says("Lines are in the order of x, then y, turned", TermsBoundariesTest::linesInOrderTurned);
    }

    private static void linesByLeftEnds() {
        dueBlocks("10 at 10", 1, 2, false, 50, 0, 2, 10, 60, 15, 2, 6);
        dueBlocks("11 at 10", 2, 2, false, 50, 0, 2, 10, 61, 15, 2, 6);
        dueBlocks("10 at 10, to the left", 1, 2, false, 50, 0, 2, 10, 40, 15, 2, 6);
        dueBlocks("11 at 10, to the left", 2, 2, false, 50, 0, 2, 10, 39, 15, 2, 6);
        dueBlocks("10 at 10, the higher below", 1, 2, false, 50, 0, 2, 6, 60, 15, 2, 10);
        dueBlocks("11 at 10, the higher below", 2, 2, false, 50, 0, 2, 6, 61, 15, 2, 10);
        dueBlocks("1 at 1", 1, 2, false, 50, 0, 1, 1, 51, 1, 1, 1);
        dueBlocks("2 at 1", 2, 2, false, 50, 0, 1, 1, 52, 1, 1, 1);
        dueBlocks("right ends do not count", 1, 2, false, 50, 0, 2, 10, 52, 15, 90, 6);
        // The rectangle of the first two is 15 high, each of them 10.
        dueBlocks("15 at the 15 of a rectangle", 1, 2, false, 0, 0, 10, 10, 12, 5, 10, 10, 15, 20, 2, 6);
        dueBlocks("16 at the 15 of a rectangle", 2, 2, false, 0, 0, 10, 10, 12, 5, 10, 10, 16, 20, 2, 6);
    }

    /** A turned line, 10 wide, with x 20 and y 50, and one box beside it. */
    private static void dueBesideTurned(String what, int want, int... box) {
        dueBlocks(what, want, 2, true, 20, 50, 10, 2, 20, 56, 10, 2, box[0], box[1], box[2], box[3]);
    }

    private static void linesByUpperEndsTurned() {
        dueBesideTurned("10 at 10", 1, 5, 60, 6, 2);
        dueBesideTurned("11 at 10", 2, 5, 61, 6, 2);
        dueBesideTurned("10 at 10, above", 1, 5, 40, 6, 2);
        dueBesideTurned("11 at 10, above", 2, 5, 39, 6, 2);
        dueBesideTurned("20 at 20", 1, 35, 70, 20, 2);
        dueBesideTurned("21 at 20", 2, 35, 71, 20, 2);
    }

    private static void linesByGap() {
        dueBlocks("12 at 6", 1, 2, false, 50, 0, 2, 10, 50, 22, 2, 6);
        dueBlocks("13 at 6", 2, 2, false, 50, 0, 2, 10, 50, 23, 2, 6);
        dueBlocks("12 at 6, the lesser above", 1, 2, false, 50, 0, 2, 6, 50, 18, 2, 10);
        dueBlocks("13 at 6, the lesser above", 2, 2, false, 50, 0, 2, 6, 50, 19, 2, 10);
        dueBlocks("12 at 6, the lower one first", 1, 2, false, 50, 22, 2, 6, 50, 0, 2, 10);
        dueBlocks("13 at 6, the lower one first", 2, 2, false, 50, 23, 2, 6, 50, 0, 2, 10);
        dueBlocks("2 at 1", 1, 2, false, 50, 0, 1, 1, 51, 3, 1, 1);
        dueBlocks("3 at 1", 2, 2, false, 50, 0, 1, 1, 51, 4, 1, 1);
        dueBlocks("0", 1, 2, false, 50, 0, 2, 10, 58, 10, 2, 10);
        dueBlocks("below 0", 1, 2, false, 50, 0, 2, 10, 58, 6, 2, 10);
        // The rectangle of the first two is 15 high, each of them 10.
        dueBlocks("30 at the 15 of a rectangle", 1, 2, false, 0, 0, 10, 10, 12, 5, 10, 10, 0, 45, 2, 40);
        dueBlocks("31 at the 15 of a rectangle", 2, 2, false, 0, 0, 10, 10, 12, 5, 10, 10, 0, 46, 2, 40);
    }

    private static void linesByGapTurned() {
        dueBesideTurned("12 at 6", 1, 2, 50, 6, 2);
        dueBesideTurned("13 at 6", 2, 1, 50, 6, 2);
        dueBesideTurned("12 at 6, to the right", 1, 42, 50, 6, 2);
        dueBesideTurned("13 at 6, to the right", 2, 43, 50, 6, 2);
        dueBesideTurned("20 at 10", 1, 50, 50, 30, 2);
        dueBesideTurned("21 at 10", 2, 51, 50, 30, 2);
    }

    private static void linesInChains() {
        dueBlocks("three", 1, 3, false, 50, 0, 2, 10, 50, 60, 2, 10, 50, 30, 2, 10);
        dueBlocks("without the middle one", 2, 2, false, 50, 0, 2, 10, 50, 60, 2, 10);
        dueBlocks("each further to the right", 1, 3, false, 50, 0, 2, 10, 60, 14, 2, 10, 70, 28, 2, 10);
        dueBlocks("two chains, joined by the last", 1, 5, false,
                50, 90, 2, 10, 50, 30, 2, 10, 50, 120, 2, 10, 50, 0, 2, 10, 50, 60, 2, 10);
        dueBlocks("a chain of mixed numbers", 1, 7, false,
                50, 0, 2, 10, 50, 150, 2, 10, 50, 60, 2, 10, 50, 90, 2, 10,
                50, 180, 2, 10, 50, 30, 2, 10, 50, 120, 2, 10);
    }

    private static void linesByY() {
        same("against their numbers", "1 2 0", lineOrder(found(50, 28, 2, 10, 50, 0, 2, 10, 50, 14, 2, 10)));
        // The last line hangs on both of the others, which stand too far apart to be near.
        same("by one, against x", "1 0 2", lineOrder(found(50, 1, 1, 4, 58, 0, 1, 4, 54, 8, 1, 4)));
        // The first line's least box lies below the second line, its rectangle begins above it.
        same("of rectangles, not of least boxes", "0 1", lineOrder(found(0, 10, 10, 10, 0, 7, 2, 2, 25, 5, 10, 10)));
    }

    private static void linesByX() {
        same("against their numbers", "1 0 2", lineOrder(found(58, 0, 1, 4, 50, 0, 1, 4, 54, 7, 1, 4)));
        same("with their numbers", "0 1 2", lineOrder(found(50, 0, 1, 4, 58, 0, 1, 4, 54, 7, 1, 4)));
    }

    private static void linesByLeastBox() {
        // Three boxes that rise to the right, and one alone where their rectangle begins.
        same("the one alone last", "0 3", lineOrder(found(0, 10, 10, 10, 12, 5, 10, 10, 24, 0, 10, 10, 0, 0, 2, 2)));
        same("the one alone first", "0 1", lineOrder(found(0, 0, 2, 2, 0, 10, 10, 10, 12, 5, 10, 10, 24, 0, 10, 10)));
        same("the one alone between", "0 1", lineOrder(found(24, 0, 10, 10, 0, 0, 2, 2, 0, 10, 10, 10, 12, 5, 10, 10)));
    }

    private static void linesInOrderTurned() {
        // The last two boxes are one line if turned, and hang on both of the others.
        BlockFinder f = found(0, 58, 4, 1, 0, 50, 4, 1, 7, 54, 4, 1, 7, 55, 4, 1);
        due("turned", true, f.turned());
        same("by x, then y", "1 0 2", lineOrder(f));
        f = found(1, 50, 4, 1, 0, 58, 4, 1, 8, 54, 4, 1, 8, 55, 4, 1);
        due("turned", true, f.turned());
        same("by x, by one, against y", "1 0 2", lineOrder(f));
        f = found(exchanged(0, 10, 10, 10, 12, 5, 10, 10, 24, 0, 10, 10, 0, 0, 2, 2));
        due("turned", true, f.turned());
        same("by the least box, the one alone last", "0 3", lineOrder(f));
        f = found(exchanged(0, 0, 2, 2, 0, 10, 10, 10, 12, 5, 10, 10, 24, 0, 10, 10));
        due("turned", true, f.turned());
        same("by the least box, the one alone first", "0 1", lineOrder(f));
    }

    // Terms: points

    private static void points() {
        says("a STAMP: 4 x is at least 3 W", TermsBoundariesTest::stampByX);
        says("and three times its lower end at most H", TermsBoundariesTest::stampByLowerEnd);
        says("a SENDER: twice its right end is at most W", TermsBoundariesTest::senderByRightEnd);
        says("four times its lower end at most H", TermsBoundariesTest::senderByLowerEnd);
        says("and not in a pane: a stamp", () -> noPointsButInAPane(75, 2, 20, 20));
        says("and not in a pane: a sender", () -> noPointsButInAPane(5, 2, 40, 20));
        says("otherwise 30 for two to six lines, 10 for others", TermsBoundariesTest::pointsForLines);
        says("15, if twice its middle (twice x and the width) is at least W", TermsBoundariesTest::pointsForX);
        says("15, if twice that of y is at least H", TermsBoundariesTest::pointsForY);
        says("10, if twice its area is at most that of the sheet", TermsBoundariesTest::pointsForArea);
        says("25, if it lies in a pane", TermsBoundariesTest::pointsForPanes);
    }

    private static void stampByX() {
        duePoints("300 of 300", 0, 100, 99, 75, 20, 25, 13);
        duePoints("296 of 300", 35, 100, 99, 74, 20, 25, 13);
        duePoints("304 of 303", 0, 101, 99, 76, 20, 25, 13);
        duePoints("300 of 303", 35, 101, 99, 75, 20, 25, 13);
        duePoints("312 of 309", 0, 103, 99, 78, 20, 25, 13);
        duePoints("308 of 309", 35, 103, 99, 77, 20, 25, 13);
        duePoints("at the right end", 0, 100, 99, 99, 0, 1, 1);
        duePoints("on the largest sheet", 0, 4096, 4096, 3072, 0, 1024, 10);
        duePoints("left of it on the largest sheet", 35, 4096, 4096, 3071, 0, 1024, 10);
        // All of the block counts, not its first line: it begins with the line that stands further left.
        duePoints("of two lines at the end", 0, 400, 400, 300, 14, 2, 10, 305, 0, 2, 10);
        duePoints("of two lines left of it", 55, 400, 400, 299, 14, 2, 10, 304, 0, 2, 10);
    }

    private static void stampByLowerEnd() {
        duePoints("99 of 99", 0, 100, 99, 75, 20, 25, 13);
        duePoints("102 of 99", 35, 100, 99, 75, 20, 25, 14);
        duePoints("99 of 100", 0, 100, 100, 75, 20, 25, 13);
        duePoints("102 of 101", 35, 100, 101, 75, 20, 25, 14);
        duePoints("102 of 102", 0, 100, 102, 75, 20, 25, 14);
        duePoints("on the largest sheet", 0, 4096, 4096, 3072, 1300, 10, 65);
        duePoints("below it on the largest sheet", 35, 4096, 4096, 3072, 1300, 10, 66);
        duePoints("of two lines at the end", 0, 400, 72, 320, 0, 2, 10, 320, 14, 2, 10);
        duePoints("of two lines below it", 55, 400, 71, 320, 0, 2, 10, 320, 14, 2, 10);
        duePoints("on a sheet of 1", 40, 1, 1, 0, 0, 1, 1);
    }

    private static void senderByRightEnd() {
        duePoints("100 of 100", 0, 100, 100, 10, 0, 40, 20);
        duePoints("102 of 100", 20, 100, 100, 10, 0, 41, 20);
        duePoints("100 of 101", 0, 101, 100, 10, 0, 40, 20);
        duePoints("100 of 99", 20, 99, 100, 10, 0, 40, 20);
        duePoints("at the left end", 0, 100, 100, 0, 0, 1, 1);
        duePoints("on the largest sheet", 0, 4096, 4096, 0, 0, 2048, 10);
        duePoints("right of it on the largest sheet", 20, 4096, 4096, 0, 0, 2049, 10);
    }

    private static void senderByLowerEnd() {
        duePoints("100 of 100", 0, 100, 100, 0, 10, 40, 15);
        duePoints("104 of 100", 20, 100, 100, 0, 10, 40, 16);
        duePoints("100 of 103", 0, 100, 103, 0, 10, 40, 15);
        duePoints("100 of 99", 20, 100, 99, 0, 10, 40, 15);
        duePoints("on the largest sheet", 0, 4096, 4096, 0, 0, 10, 1024);
        duePoints("below it on the largest sheet", 20, 4096, 4096, 0, 0, 10, 1025);
        duePoints("of two lines at the end", 0, 400, 96, 20, 0, 2, 10, 20, 14, 2, 10);
        duePoints("of two lines below it", 40, 400, 95, 20, 0, 2, 10, 20, 14, 2, 10);
    }

    /** A box that has no points on a sheet of 100 by 100, with panes that it fills or that are one too short. */
    private static void noPointsButInAPane(int x, int y, int w, int h) {
        int[] box = {x, y, w, h};
        int inside = 45 + (2 * x + w >= 100 ? 15 : 0);
        due("without a pane", 0, foundOn(100, 100, box).points(0));
        due("that it fills", inside, foundWithPane(100, 100, box, x, y, w, h).points(0));
        due("as large as the sheet", inside, foundWithPane(100, 100, box, 0, 0, 100, 100).points(0));
        due("short at the left", 0, foundWithPane(100, 100, box, x + 1, y, w - 1, h).points(0));
        due("short above", 0, foundWithPane(100, 100, box, x, y + 1, w, h - 1).points(0));
        due("short at the right", 0, foundWithPane(100, 100, box, x, y, w - 1, h).points(0));
        due("short below", 0, foundWithPane(100, 100, box, x, y, w, h - 1).points(0));
        due("elsewhere", 0, foundWithPane(100, 100, box, 40, 60, 40, 40).points(0));
    }

    private static void pointsForLines() {
        int[] lines = {1, 2, 3, 4, 5, 6, 7, 8, 64};
        int[] want = {20, 40, 40, 40, 40, 40, 20, 20, 20};
        for (int i = 0; i < lines.length; i++) {
            BlockFinder f = stack(lines[i]);
            due("lines", lines[i], f.block(0, 4));
            due("points of " + lines[i] + " lines", want[i], f.points(0));
        }
        duePoints("two boxes in one line", 20, 400, 400, 100, 100, 10, 10, 112, 100, 10, 10);
    }

    private static void pointsForX() {
        duePoints("100 of 100", 35, 100, 100, 45, 40, 10, 10);
        duePoints("99 of 100", 20, 100, 100, 44, 40, 11, 10);
        duePoints("101 of 101", 35, 101, 100, 45, 40, 11, 10);
        duePoints("100 of 101", 20, 101, 100, 45, 40, 10, 10);
        duePoints("at the left end", 20, 100, 100, 0, 40, 10, 10);
        duePoints("from end to end", 35, 100, 100, 0, 40, 100, 10);
        duePoints("from end to end but one", 20, 100, 100, 0, 40, 99, 10);
        duePoints("on the largest sheet", 35, 4096, 4096, 2000, 1500, 96, 10);
        duePoints("left of it on the largest sheet", 20, 4096, 4096, 2000, 1500, 95, 10);
    }

    private static void pointsForY() {
        duePoints("100 of 100", 35, 100, 100, 30, 45, 10, 10);
        duePoints("99 of 100", 20, 100, 100, 30, 44, 10, 11);
        duePoints("101 of 101", 35, 100, 101, 30, 45, 10, 11);
        duePoints("100 of 101", 20, 100, 101, 30, 45, 10, 10);
        duePoints("from end to end", 35, 100, 100, 30, 0, 10, 100);
        duePoints("from end to end but one", 20, 100, 100, 30, 0, 10, 99);
        duePoints("on the largest sheet", 35, 4096, 4096, 100, 2000, 10, 96);
        duePoints("above it on the largest sheet", 20, 4096, 4096, 100, 2000, 10, 95);
    }

    private static void pointsForArea() {
        duePoints("8 of 8", 50, 8, 1, 4, 0, 4, 1);
        duePoints("10 of 8", 40, 8, 1, 3, 0, 5, 1);
        duePoints("6 of 7", 50, 7, 1, 4, 0, 3, 1);
        duePoints("8 of 7", 40, 7, 1, 3, 0, 4, 1);
        duePoints("24 of 25", 50, 5, 5, 1, 2, 4, 3);
        duePoints("more than half, and left, and above", 10, 100, 100, 0, 0, 99, 99);
        duePoints("all of the largest sheet", 40, 4096, 4096, 0, 0, 4096, 4096);
        duePoints("half of it", 50, 4096, 4096, 0, 2048, 4096, 2048);
        duePoints("half and one row", 40, 4096, 4096, 0, 2047, 4096, 2049);
        // The two boxes are small; the rectangle around them is not.
        duePoints("800 of 800, of the rectangle", 50, 20, 40, 0, 10, 2, 20, 18, 10, 2, 20);
        duePoints("840 of 800, of the rectangle", 40, 20, 40, 0, 10, 2, 20, 18, 11, 2, 20);
    }

    private static void pointsForPanes() {
        int[] box = {30, 30, 10, 10};
        due("without a pane", 20, foundOn(100, 100, box).points(0));
        due("that it fills", 45, foundWithPane(100, 100, box, 30, 30, 10, 10).points(0));
        due("one larger all around", 45, foundWithPane(100, 100, box, 29, 29, 12, 12).points(0));
        due("as large as the sheet", 45, foundWithPane(100, 100, box, 0, 0, 100, 100).points(0));
        due("short at the left", 20, foundWithPane(100, 100, box, 31, 29, 12, 12).points(0));
        due("short above", 20, foundWithPane(100, 100, box, 29, 31, 12, 12).points(0));
        due("short at the right", 20, foundWithPane(100, 100, box, 20, 20, 19, 30).points(0));
        due("short below", 20, foundWithPane(100, 100, box, 20, 20, 30, 19).points(0));
        int[] two = {40, 30, 2, 10, 40, 44, 2, 10};
        due("around one of two lines", 40, foundWithPane(100, 100, two, 40, 30, 2, 10).points(0));
        due("around both", 65, foundWithPane(100, 100, two, 40, 30, 2, 24).points(0));
        BlockFinder halves = sheet(100, 100, box);
        halves.frame(30, 30, 5, 10);
        halves.frame(35, 30, 5, 10);
        halves.find();
        due("two panes that have a half each", 20, halves.points(0));
        BlockFinder twice = sheet(100, 100, box);
        twice.frame(0, 0, 5, 5);
        twice.frame(30, 30, 10, 10);
        twice.frame(30, 30, 10, 10);
        twice.find();
        due("in two of three panes", 45, twice.points(0));
    }

    // Terms: the order of blocks, print

    private static void orderAndPrint() {
        says("THE ORDER of blocks: more points first", TermsBoundariesTest::blocksByPoints);
        says("of the same by y", TermsBoundariesTest::blocksByY);
        says("then x of their rectangles", TermsBoundariesTest::blocksByX);
        says("then by their least boxes", TermsBoundariesTest::blocksByLeastBox);
        says("THE ORDER of blocks by x, then y, turned", TermsBoundariesTest::blocksInOrderTurned);
        says("PRINTED, if four times what its highest box is higher .. is at most the highest one's height",
                TermsBoundariesTest::printedByHeights);
        says("or, if the sheet is turned, by widths", TermsBoundariesTest::printedByWidths);
    }

    private static void blocksByPoints() {
        // A sender, then blocks of 20, 35 and 50 points, each further down.
        BlockFinder f = foundOn(200, 200, 0, 0, 10, 10, 20, 70, 10, 10, 150, 70, 10, 10, 150, 150, 10, 10);
        same("places", "3 2 1 0", blocksOfBoxes(f, 4));
        int[] want = {50, 35, 20, 0};
        for (int i = 0; i < want.length; i++) {
            due("points(" + i + ")", want[i], f.points(i));
        }
        f = foundOn(200, 200, 150, 150, 10, 10, 0, 0, 10, 10);
        same("no points last, though above", "0 1", blocksOfBoxes(f, 2));
        f = foundOn(200, 200, 0, 0, 10, 10, 150, 150, 10, 10, 150, 162, 10, 10);
        due("turned", true, f.turned());
        same("turned, no points last", "1 0 0", blocksOfBoxes(f, 3));
    }

    private static void blocksByY() {
        BlockFinder f = foundOn(400, 400, 210, 301, 9, 9, 350, 300, 9, 9);
        same("by one, against x and numbers", "1 0", blocksOfBoxes(f, 2));
        f = foundOn(400, 400, 210, 300, 9, 9, 350, 301, 9, 9);
        same("by one, with x and numbers", "0 1", blocksOfBoxes(f, 2));
        f = foundOn(400, 400, 10, 11, 9, 9, 150, 10, 9, 9);
        same("of no points too", "1 0", blocksOfBoxes(f, 2));
    }

    /**
     * Two blocks of 45 points each: three lines that go down to the left, and a small box in a pane at the left
     * upper corner of their rectangle.
     */
    private static void dueStairs(String what, String want, int width, int... sides) {
        dueTwoAlike(what, want, false, sheet(width, 100, sides));
    }

    private static void dueTwoAlike(String what, String want, boolean turned, BlockFinder f) {
        f.frame(0, 0, 2, 2);
        due(what + ": blocks", 2, f.find());
        due(what + ": turned", turned, f.turned());
        due(what + ": points", 45, f.points(0));
        due(what + ": points too", 45, f.points(1));
        same(what, want, blocksOfBoxes(f, (want.length() + 1) / 2));
    }

    private static void blocksByX() {
        dueStairs("by one, against numbers", "1 0 0 0", 42, 1, 0, 1, 2, 40, 0, 2, 20, 20, 22, 2, 20, 0, 44, 2, 20);
        dueStairs("by one, with numbers", "0 0 1 0", 42, 40, 0, 2, 20, 20, 22, 2, 20, 1, 0, 1, 2, 0, 44, 2, 20);
        dueStairs("the small one first", "1 1 1 0", 43, 41, 0, 2, 20, 21, 22, 2, 20, 1, 44, 2, 20, 0, 0, 1, 2);
        same("far", "1 0", blocksOfBoxes(foundOn(400, 400, 350, 300, 9, 9, 210, 300, 9, 9), 2));
    }

    private static void blocksByLeastBox() {
        dueStairs("the small one last", "0 0 0 1", 42, 40, 0, 2, 20, 20, 22, 2, 20, 0, 44, 2, 20, 0, 0, 1, 2);
        dueStairs("the small one first", "0 1 1 1", 42, 0, 0, 1, 2, 0, 44, 2, 20, 20, 22, 2, 20, 40, 0, 2, 20);
        dueStairs("the small one between", "0 1 0 0", 42, 0, 44, 2, 20, 0, 0, 1, 2, 20, 22, 2, 20, 40, 0, 2, 20);
    }

    private static void blocksInOrderTurned() {
        BlockFinder f = foundOn(400, 400, 260, 300, 10, 10, 350, 210, 10, 10, 300, 210, 10, 10, 300, 222, 10, 10,
                260, 350, 10, 10);
        due("turned", true, f.turned());
        same("by x, then y", "0 3 2 2 1", blocksOfBoxes(f, 5));
        f = foundOn(400, 400, 260, 350, 10, 10, 350, 210, 10, 10, 300, 210, 10, 10, 300, 222, 10, 10,
                260, 300, 10, 10);
        due("turned", true, f.turned());
        same("by x, then y, against numbers", "1 3 2 2 0", blocksOfBoxes(f, 5));
        f = foundOn(400, 400, 301, 210, 9, 9, 300, 350, 9, 9, 300, 361, 9, 9);
        due("turned", true, f.turned());
        same("by x, by one, against y", "1 0 0", blocksOfBoxes(f, 3));
        // Stairs like those above with x and y exchanged; two boxes of theirs are one line if turned.
        dueTwoAlike("by the least box, the small one last", "0 0 0 0 1", true,
                sheet(100, 42, 0, 40, 20, 2, 22, 20, 20, 2, 44, 0, 20, 2, 44, 3, 20, 1, 0, 0, 2, 1));
        dueTwoAlike("by the least box, the small one first", "0 1 1 1 1", true,
                sheet(100, 42, 0, 0, 2, 1, 0, 40, 20, 2, 22, 20, 20, 2, 44, 0, 20, 2, 44, 3, 20, 1));
    }

    private static void duePrinted(String what, boolean want, boolean turned, int... sides) {
        BlockFinder f = foundOn(4096, 4096, sides);
        due(what + ": blocks", 1, blocks(f));
        due(what + ": turned", turned, f.turned());
        due(what, want, f.printed(0));
    }

    private static void printedByHeights() {
        duePrinted("one box", true, false, 50, 50, 10, 10);
        duePrinted("one of 1", true, false, 50, 50, 1, 1);
        duePrinted("12 of 12", true, false, 50, 50, 10, 12, 62, 50, 10, 9);
        duePrinted("16 of 12", false, false, 50, 50, 10, 12, 62, 50, 10, 8);
        duePrinted("12 of 13", true, false, 50, 50, 10, 13, 62, 50, 10, 10);
        duePrinted("12 of 11", false, false, 50, 50, 10, 11, 62, 50, 10, 8);
        duePrinted("4 of 4", true, false, 50, 50, 10, 4, 62, 50, 10, 3);
        duePrinted("4 of 3", false, false, 50, 50, 10, 3, 62, 50, 10, 2);
        duePrinted("the lower one first", true, false, 50, 50, 10, 9, 62, 50, 10, 12);
        duePrinted("the lower one first, too low", false, false, 50, 50, 10, 8, 62, 50, 10, 12);
        duePrinted("the lowest in another line", false, false, 50, 50, 2, 12, 50, 66, 2, 8);
        duePrinted("a line's height does not count", true, false, 50, 50, 10, 12, 62, 55, 10, 12);
        duePrinted("widths do not count", true, false, 50, 50, 10, 10, 62, 50, 90, 10);
        duePrinted("4096 of 4096", true, false, 50, 0, 10, 4096, 62, 0, 10, 3072);
        duePrinted("4100 of 4096", false, false, 50, 0, 10, 4096, 62, 0, 10, 3071);
    }

    private static void printedByWidths() {
        duePrinted("12 of 12", true, true, 50, 50, 12, 10, 50, 62, 9, 10);
        duePrinted("16 of 12", false, true, 50, 50, 12, 10, 50, 62, 8, 10);
        duePrinted("12 of 13", true, true, 50, 50, 13, 10, 50, 62, 10, 10);
        duePrinted("12 of 11", false, true, 50, 50, 11, 10, 50, 62, 8, 10);
        duePrinted("heights do not count", true, true, 50, 50, 12, 2, 50, 62, 12, 90);
    }
}
