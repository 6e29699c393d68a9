/**
 * Each sentence of the document's promises that names a boundary case, with a test of its own: too small, too
 * large, none, full, and every refused call. What goes wrong is told under the sentence's words.
 */
public final class PromisesBoundariesTest extends Boundaries {
    private static final int[] NO_DETAILS = {LEAST, LEAST + 4, -6, -1, 6, 7, MOST};
    private static final int[] NO_BLOCKS_OF_TWO = {LEAST, LEAST + 1, -64, -2, -1, 2, 3, 63, 64, 65, MOST - 1, MOST};

    public static void main(String[] args) {
        making();
        finding();
        asking();
        boxesAgain();
        end("PromisesBoundariesTest");
    }

    // Promises 1 to 3

    private static void making() {
        says("Promise 1: W and H are the nearest of 1 .. 4096", PromisesBoundariesTest::nearestSides);
        says("Promise 1: no boxes, no panes", PromisesBoundariesTest::newObject);
        says("Promise 2: a box more: its number", () -> onTheSheet(true));
        says("Promise 2: OUTSIDE (its width or height is below 1)", () -> sidesBelowOne(true));
        says("Promise 2: OUTSIDE (it does not lie on the sheet)", () -> notOnTheSheet(true));
        says("Promise 2: OUTSIDE, near the ends of int", () -> nearTheEndsOfInt(true));
        says("Promise 2: ROOM", PromisesBoundariesTest::roomForBoxes);
        says("Promise 3: a pane more: its number", () -> onTheSheet(false));
        says("Promise 3: OUTSIDE (width or height below 1, as box())", () -> sidesBelowOne(false));
        says("Promise 3: OUTSIDE (not on the sheet, as box())", () -> notOnTheSheet(false));
        says("Promise 3: OUTSIDE (near the ends of int, as box())", () -> nearTheEndsOfInt(false));
        says("Promise 3: ROOM (as box())", PromisesBoundariesTest::roomForPanes);
    }

    private static int put(BlockFinder f, boolean asBox, int x, int y, int w, int h) {
        return asBox ? f.box(x, y, w, h) : f.frame(x, y, w, h);
    }

    private static void nearestSides() {
        int[][] givenAndMade = {
            {LEAST, 1}, {-4096, 1}, {-1, 1}, {0, 1}, {1, 1}, {2, 2},
            {4095, 4095}, {4096, 4096}, {4097, 4096}, {8192, 4096}, {65537, 4096}, {MOST, 4096}};
        for (int[] side : givenAndMade) {
            due("width " + side[0] + " filled", 0, new BlockFinder(side[0], 7).box(0, 0, side[1], 7));
            due("width " + side[0] + " passed", OUTSIDE, new BlockFinder(side[0], 7).box(0, 0, side[1] + 1, 7));
            due("height beside it passed", OUTSIDE, new BlockFinder(side[0], 7).box(0, 0, 1, 8));
            due("height " + side[0] + " filled", 0, new BlockFinder(7, side[0]).box(0, 0, 7, side[1]));
            due("height " + side[0] + " passed", OUTSIDE, new BlockFinder(7, side[0]).box(0, 0, 7, side[1] + 1));
            due("width beside it passed", OUTSIDE, new BlockFinder(7, side[0]).box(0, 0, 8, 1));
            due("pane in width " + side[0], 0, new BlockFinder(side[0], 7).frame(side[1] - 1, 6, 1, 1));
            due("no pane in width " + side[0], OUTSIDE, new BlockFinder(side[0], 7).frame(side[1], 6, 1, 1));
        }
        // The sides count as they are made, not as they are given, in points too.
        duePoints("sides of 0 count as 1", 40, 0, 0, 0, 0, 1, 1);
        duePoints("sides of 5000 count as 4096", 50, 5000, 5000, 2000, 2000, 96, 96);
        duePoints("and not as 4095", 20, 5000, 5000, 2000, 2000, 95, 95);
    }

    private static void newObject() {
        due("blocks found", 0, new BlockFinder(100, 100).find());
        due("boxes that go", 0, new BlockFinder(100, 100).clear());
        due("box 0", UNKNOWN, new BlockFinder(100, 100).blockOf(0));
        due("the first box", 0, new BlockFinder(100, 100).box(0, 0, 1, 1));
        due("the first pane", 0, new BlockFinder(100, 100).frame(0, 0, 1, 1));
        due("a sender is in no pane", 0, foundOn(100, 100, 0, 0, 1, 1).points(0));
        BlockFinder other = sheet(100, 100, 50, 50, 10, 10);
        other.frame(0, 0, 50, 50);
        other.find();
        due("nor in that of another object", 0, foundOn(100, 100, 0, 0, 1, 1).points(0));
        due("another object's box", UNKNOWN, new BlockFinder(100, 100).blockOf(0));
    }

    private static void onTheSheet(boolean asBox) {
        BlockFinder f = new BlockFinder(30, 20);
        int[][] on = {{0, 0, 1, 1}, {29, 0, 1, 1}, {0, 19, 1, 1}, {29, 19, 1, 1}, {0, 0, 30, 20}, {10, 5, 20, 15}};
        for (int i = 0; i < on.length; i++) {
            due("on the sheet", i, put(f, asBox, on[i][0], on[i][1], on[i][2], on[i][3]));
        }
    }

    private static void sidesBelowOne(boolean asBox) {
        BlockFinder f = new BlockFinder(30, 20);
        int[] below = {0, -1, -2, -30, LEAST + 1, LEAST};
        for (int side : below) {
            due("width " + side, OUTSIDE, put(f, asBox, 5, 5, side, 3));
            due("height " + side, OUTSIDE, put(f, asBox, 5, 5, 3, side));
            due("both " + side, OUTSIDE, put(f, asBox, 5, 5, side, side));
            due("width " + side + " at the corner", OUTSIDE, put(f, asBox, 30, 20, side, 1));
            due("height " + side + " at the corner", OUTSIDE, put(f, asBox, 29, 20, 1, side));
        }
        due("refusals take no number", 0, put(f, asBox, 5, 5, 1, 1));
    }

    private static void notOnTheSheet(boolean asBox) {
        BlockFinder f = new BlockFinder(30, 20);
        int[][] off = {
            {-1, 0, 1, 1}, {-1, 0, 2, 1}, {-1, 0, 31, 1}, {0, -1, 1, 1}, {0, -1, 1, 2}, {0, -1, 1, 21},
            {30, 0, 1, 1}, {0, 20, 1, 1}, {29, 0, 2, 1}, {0, 19, 1, 2}, {0, 0, 31, 20}, {0, 0, 30, 21},
            {10, 5, 21, 15}, {10, 5, 20, 16}, {0, 0, 20, 30}};
        for (int[] r : off) {
            due(java.util.Arrays.toString(r), OUTSIDE, put(f, asBox, r[0], r[1], r[2], r[3]));
        }
        due("refusals take no number", 0, put(f, asBox, 5, 5, 1, 1));
        due("nothing was found of them", asBox ? 1 : 0, f.find());
    }

    private static void nearTheEndsOfInt(boolean asBox) {
        int[] numbers = {LEAST, LEAST + 1, LEAST + 29, -1, 0, 1, 19, 20, 29, 30, MOST - 29, MOST - 1, MOST};
        for (int x : numbers) {
            for (int y : numbers) {
                for (int w : numbers) {
                    for (int h : numbers) {
                        boolean on = x >= 0 && y >= 0 && w >= 1 && h >= 1 && (long) x + w <= 30 && (long) y + h <= 20;
                        due(x + ", " + y + ", " + w + ", " + h, on ? 0 : OUTSIDE,
                                put(new BlockFinder(30, 20), asBox, x, y, w, h));
                    }
                }
            }
        }
    }

    private static void roomForBoxes() {
        BlockFinder f = new BlockFinder(100, 100);
        for (int i = 0; i < 8; i++) {
            f.frame(0, 0, 1, 1);
        }
        for (int i = 0; i < 64; i++) {
            due("box beside full panes", i, f.box(50, 50, 10, 10));
        }
        due("box 64", ROOM, f.box(50, 50, 10, 10));
        due("one block", 1, f.find());
        due("of 64 boxes", 64, f.block(0, 5));
        due("find makes no room", ROOM, f.box(50, 50, 10, 10));
        f.clear();
        for (int i = 0; i < 64; i++) {
            due("box behind clear", i, f.box(50, 50, 10, 10));
        }
        due("box 64 behind clear", ROOM, f.box(50, 50, 10, 10));
    }

    private static void roomForPanes() {
        BlockFinder f = new BlockFinder(100, 100);
        for (int i = 0; i < 64; i++) {
            f.box(50, 50, 10, 10);
        }
        for (int i = 0; i < 8; i++) {
            due("pane beside full boxes", i, f.frame(0, 0, 1, 1));
        }
        due("pane 8", ROOM, f.frame(0, 0, 1, 1));
        f.find();
        due("find makes no room", ROOM, f.frame(0, 0, 1, 1));
        f.clear();
        due("clear makes no room", ROOM, f.frame(0, 0, 1, 1));
    }

    // Promise 4

    private static void finding() {
        says("Promise 4: how many (0 without boxes)", PromisesBoundariesTest::findHowMany);
        says("Promise 4: of the boxes as they are", PromisesBoundariesTest::findBoxesAsTheyAre);
        says("Promise 4: of the panes as they are", PromisesBoundariesTest::findPanesAsTheyAre);
        says("Promise 4: What is found stays till the next find()", PromisesBoundariesTest::foundStays);
        says("Promise 4: till the next find(): then it goes", PromisesBoundariesTest::foundGoes);
    }

    private static void findHowMany() {
        BlockFinder f = new BlockFinder(200, 200);
        due("without boxes", 0, f.find());
        due("without boxes again", 0, f.find());
        f.frame(0, 0, 100, 100);
        due("panes alone", 0, f.find());
        f.box(0, 0, 201, 1);
        due("a refused box alone", 0, f.find());
        f.box(0, 0, 1, 1);
        due("one box", 1, f.find());
        f.clear();
        due("without boxes any more", 0, f.find());
        due("two lines of one block", 1, sheet(200, 200, 50, 0, 2, 10, 50, 14, 2, 10).find());
        BlockFinder apart = new BlockFinder(4096, 4096);
        for (int i = 0; i < 64; i++) {
            apart.box(100 * (i % 8), 100 * (i / 8), 4, 4);
        }
        due("64 blocks", 64, apart.find());
        due("block 63", 1, apart.block(63, 5));
        due("no block 64", UNKNOWN, apart.block(64, 5));
    }

    private static void findBoxesAsTheyAre() {
        BlockFinder f = sheet(200, 200, 50, 100, 10, 10);
        due("one", 1, f.find());
        due("one again", 1, f.find());
        f.box(150, 150, 10, 10);
        due("one came", 2, f.find());
        f.box(62, 100, 10, 10);
        due("one came beside another", 2, f.find());
        due("its block", 1, f.blockOf(2));
        dueBlock("its block", f, 1, 50, 100, 22, 10, 1, 2);
        f.clear();
        f.box(20, 120, 10, 10);
        due("all went, one came", 1, f.find());
        dueBlock("it", f, 0, 20, 120, 10, 10, 1, 1);
        f.clear();
        due("all went", 0, f.find());
    }

    private static void findPanesAsTheyAre() {
        BlockFinder f = sheet(200, 200, 10, 10, 10, 10);
        f.find();
        due("a sender", 0, f.points(0));
        f.frame(10, 10, 10, 10);
        f.find();
        due("a pane came", 45, f.points(0));
        f.frame(0, 0, 100, 100);
        f.find();
        due("another pane came", 45, f.points(0));
    }

    private interface Deed {
        void on(BlockFinder f);
    }

    private static void dueStays(String behind, Deed deed) {
        BlockFinder f = turnedBlocks();
        String want = allFound(f);
        deed.on(f);
        same("behind " + behind, want, allFound(f));
    }

    /** Block 0 of boxes 2 and 3, which is printed, and block 1, a sender, of boxes 0 and 1, which is not. */
    private static BlockFinder turnedBlocks() {
        return foundOn(200, 200, 10, 10, 12, 10, 10, 22, 4, 10, 150, 150, 12, 10, 150, 162, 9, 10);
    }

    /** Were they found, the sheet would stand. */
    private static void putRow(BlockFinder f) {
        for (int i = 0; i < 6; i++) {
            f.box(100 + 12 * i, 10, 10, 10);
        }
    }

    private static void foundStays() {
        BlockFinder f = turnedBlocks();
        due("turned", true, f.turned());
        due("candidates", 1, f.candidates());
        due("printed", true, f.printed(0));
        due("not printed", false, f.printed(1));
        same("blocks of boxes", "1 1 0 0", blocksOfBoxes(f, 4));
        putRow(f);
        same("blocks of boxes behind box()", "1 1 0 0 -1 -1", blocksOfBoxes(f, 6));
        f.frame(0, 0, 200, 200);
        same("blocks of boxes behind frame()", "1 1 0 0 -1 -1", blocksOfBoxes(f, 6));
        dueStays("box()", PromisesBoundariesTest::putRow);
        dueStays("frame()", g -> g.frame(0, 0, 200, 200));
        dueStays("a refused box()", g -> g.box(0, 0, 0, 0));
        dueStays("a refused frame()", g -> g.frame(0, 0, 0, 0));
        dueStays("clear()", g -> g.clear());
        dueStays("clear() and box()", g -> {
            g.clear();
            putRow(g);
        });
    }

    private static void foundGoes() {
        BlockFinder f = foundOn(200, 200, 150, 50, 10, 10, 150, 62, 10, 10);
        f.clear();
        due("find", 0, f.find());
        due("block", UNKNOWN, f.block(0, 0));
        due("line", UNKNOWN, f.line(0, 0, 0));
        due("points", UNKNOWN, f.points(0));
        due("printed", false, f.printed(0));
        due("turned", false, f.turned());
        due("candidates", 0, f.candidates());
        f.box(20, 120, 10, 10);
        due("find anew", 1, f.find());
        dueBlock("anew", f, 0, 20, 120, 10, 10, 1, 1);
        dueLine("anew", f, 0, 0, 20, 120, 10, 10, 1, 0);
    }

    // Promises 5 to 9

    private static void asking() {
        says("Promise 5: 0 x, 1 y, .. 5 how many boxes", PromisesBoundariesTest::blockDetails);
        says("Promise 5: UNKNOWN (there is no such block)", PromisesBoundariesTest::noSuchBlock);
        says("Promise 5: UNKNOWN (nothing was found)", () -> nothingFound(f -> f.block(0, 0)));
        says("Promise 5: OUTSIDE (what)", PromisesBoundariesTest::noSuchBlockDetail);
        says("Promise 5: UNKNOWN goes before OUTSIDE", PromisesBoundariesTest::noBlockAndNoDetail);
        says("Promise 6: 0 x, 1 y, .. 5 its least box", PromisesBoundariesTest::lineDetails);
        says("Promise 6: UNKNOWN (there is no such block)", PromisesBoundariesTest::noBlockOfLine);
        says("Promise 6: UNKNOWN (nothing was found)", () -> nothingFound(f -> f.line(0, 0, 0)));
        says("Promise 6: OUTSIDE (what)", PromisesBoundariesTest::noSuchLineDetail);
        says("Promise 6: then NONE: there is none such", PromisesBoundariesTest::noSuchLine);
        says("Promise 6: UNKNOWN, OUTSIDE; then NONE", PromisesBoundariesTest::refusalsOfLine);
        says("Promise 7: UNKNOWN (there is no such block)", PromisesBoundariesTest::noPointsOfNoBlock);
        says("Promise 7: UNKNOWN (nothing was found)", () -> nothingFound(f -> f.points(0)));
        says("Promise 8: False also: there is none such", PromisesBoundariesTest::noPrintOfNoBlock);
        says("Promise 9: Whether the sheet was found TURNED", PromisesBoundariesTest::foundTurned);
    }

    /** Blocks 0 and 1: two lines of three boxes, below a stamp of one box. */
    private static BlockFinder twoBlocks() {
        return foundOn(200, 200, 50, 100, 2, 10, 54, 101, 30, 9, 48, 114, 3, 12, 180, 5, 7, 9);
    }

    private interface Question {
        int ask(BlockFinder f);
    }

    private static void nothingFound(Question question) {
        BlockFinder f = new BlockFinder(100, 100);
        due("new", UNKNOWN, question.ask(f));
        f.box(50, 50, 10, 10);
        f.frame(50, 50, 10, 10);
        due("with a box, before any find", UNKNOWN, question.ask(f));
        f.clear();
        f.find();
        due("found without boxes", UNKNOWN, question.ask(f));
        f.box(50, 50, 10, 10);
        due("a box that came since", UNKNOWN, question.ask(f));
        f.find();
        due("then found", 0, question.ask(f) < 0 ? 1 : 0);
        f.clear();
        f.find();
        due("found without boxes any more", UNKNOWN, question.ask(f));
    }

    private static void blockDetails() {
        dueBlock("first", twoBlocks(), 0, 48, 100, 36, 26, 2, 3);
        dueBlock("last", twoBlocks(), 1, 180, 5, 7, 9, 1, 1);
    }

    private static void noSuchBlock() {
        BlockFinder f = twoBlocks();
        for (int i : NO_BLOCKS_OF_TWO) {
            for (int what = 0; what <= 5; what++) {
                due("block(" + i + ", " + what + ")", UNKNOWN, f.block(i, what));
            }
        }
        due("the first", 48, f.block(0, 0));
        due("the last", 180, f.block(1, 0));
    }

    private static void noSuchBlockDetail() {
        BlockFinder f = twoBlocks();
        for (int what : NO_DETAILS) {
            due("block(0, " + what + ")", OUTSIDE, f.block(0, what));
            due("block(1, " + what + ")", OUTSIDE, f.block(1, what));
        }
        due("the first", 48, f.block(0, 0));
        due("the last", 3, f.block(0, 5));
    }

    private static void noBlockAndNoDetail() {
        BlockFinder f = twoBlocks();
        for (int what : NO_DETAILS) {
            for (int i : NO_BLOCKS_OF_TWO) {
                due("block(" + i + ", " + what + ")", UNKNOWN, f.block(i, what));
            }
            due("block(0, " + what + ") before any find", UNKNOWN, new BlockFinder(9, 9).block(0, what));
        }
    }

    private static void lineDetails() {
        dueLine("first of the first", twoBlocks(), 0, 0, 50, 100, 34, 10, 2, 0);
        dueLine("last of the first", twoBlocks(), 0, 1, 48, 114, 3, 12, 1, 2);
        dueLine("the one of the last", twoBlocks(), 1, 0, 180, 5, 7, 9, 1, 3);
        BlockFinder f = stack(64);
        dueLine("first of 64", f, 0, 0, 1000, 1000, 2, 10, 1, 0);
        dueLine("last of 64", f, 0, 63, 1000, 1882, 2, 10, 1, 63);
    }

    private static void noBlockOfLine() {
        BlockFinder f = twoBlocks();
        for (int i : NO_BLOCKS_OF_TWO) {
            for (int what = 0; what <= 5; what++) {
                due("line(" + i + ", 0, " + what + ")", UNKNOWN, f.line(i, 0, what));
            }
        }
    }

    private static void noSuchLineDetail() {
        BlockFinder f = twoBlocks();
        for (int what : NO_DETAILS) {
            due("line(0, 0, " + what + ")", OUTSIDE, f.line(0, 0, what));
            due("line(1, 0, " + what + ")", OUTSIDE, f.line(1, 0, what));
        }
        due("the first", 50, f.line(0, 0, 0));
        due("the last", 2, f.line(0, 1, 5));
    }

    private static void noSuchLine() {
        BlockFinder f = twoBlocks();
        int[] noLines = {LEAST, LEAST + 1, -64, -2, -1, 2, 3, 63, 64, 65, MOST - 1, MOST};
        for (int k : noLines) {
            for (int what = 0; what <= 5; what++) {
                due("line(0, " + k + ", " + what + ")", NONE, f.line(0, k, what));
            }
        }
        due("a line that the other block alone has", NONE, f.line(1, 1, 0));
        BlockFinder full = stack(64);
        due("line 64 of 64", NONE, full.line(0, 64, 0));
        due("line -1 of 64", NONE, full.line(0, -1, 0));
    }

    private static void refusalsOfLine() {
        BlockFinder f = twoBlocks();
        int[] noLines = {LEAST, -1, 2, MOST};
        for (int what : NO_DETAILS) {
            for (int k : noLines) {
                due("line(0, " + k + ", " + what + ")", OUTSIDE, f.line(0, k, what));
                for (int i : NO_BLOCKS_OF_TWO) {
                    due("line(" + i + ", " + k + ", " + what + ")", UNKNOWN, twoBlocks().line(i, k, what));
                    due("line(" + i + ", " + k + ", 0)", UNKNOWN, twoBlocks().line(i, k, 0));
                }
            }
        }
    }

    private static void noPointsOfNoBlock() {
        BlockFinder f = twoBlocks();
        for (int i : NO_BLOCKS_OF_TWO) {
            due("points(" + i + ")", UNKNOWN, f.points(i));
        }
        due("the first", 55, f.points(0));
        due("the last", 0, f.points(1));
    }

    private static void noPrintOfNoBlock() {
        BlockFinder f = twoBlocks();
        for (int i : NO_BLOCKS_OF_TWO) {
            due("printed(" + i + ")", false, f.printed(i));
        }
        due("the last", true, f.printed(1));
        BlockFinder none = new BlockFinder(100, 100);
        due("new", false, none.printed(0));
        none.box(50, 50, 10, 10);
        due("before any find", false, none.printed(0));
        none.find();
        due("found", true, none.printed(0));
        due("no second one", false, none.printed(1));
        none.clear();
        none.find();
        due("found without boxes", false, none.printed(0));
    }

    private static void foundTurned() {
        BlockFinder f = new BlockFinder(200, 200);
        due("new", false, f.turned());
        f.box(50, 50, 10, 10);
        f.box(50, 62, 10, 10);
        due("before any find", false, f.turned());
        f.find();
        due("found", true, f.turned());
        f.box(62, 50, 10, 10);
        f.box(62, 62, 10, 10);
        due("till the next find", true, f.turned());
        f.find();
        due("as many lines both ways", false, f.turned());
        f.clear();
        f.box(50, 50, 10, 10);
        f.box(50, 62, 10, 10);
        f.find();
        due("turned again", true, f.turned());
        f.clear();
        due("cleared", true, f.turned());
        f.find();
        due("found without boxes", false, f.turned());
    }

    // Promises 10 to 12

    private static void boxesAgain() {
        says("Promise 10: In which block a box is", PromisesBoundariesTest::blockOfBox);
        says("Promise 10: NONE: it came behind the latest find()", PromisesBoundariesTest::boxBehindFind);
        says("Promise 10: UNKNOWN: there is no such box", PromisesBoundariesTest::noSuchBox);
        says("Promise 11: How many blocks have points", PromisesBoundariesTest::candidates);
        says("Promise 12: All boxes go: how many there were", PromisesBoundariesTest::clearHowMany);
        says("Promise 12: (panes .. stay)", PromisesBoundariesTest::clearLeavesPanes);
        says("Promise 12: (what was found, stay)", PromisesBoundariesTest::clearLeavesFound);
    }

    private static void blockOfBox() {
        same("two blocks", "0 0 0 1", blocksOfBoxes(twoBlocks(), 4));
        same("three blocks", "1 2 0", blocksOfBoxes(found(150, 70, 10, 10, 20, 70, 10, 10, 150, 150, 10, 10), 3));
        BlockFinder f = new BlockFinder(4096, 4096);
        for (int i = 0; i < 64; i++) {
            f.box(2100 + 100 * ((63 - i) % 8), 2100 + 100 * ((63 - i) / 8), 4, 4);
        }
        f.find();
        due("the first of 64", 63, f.blockOf(0));
        due("the last of 64", 0, f.blockOf(63));
    }

    private static void boxBehindFind() {
        BlockFinder f = sheet(200, 200, 50, 50, 10, 10);
        due("before any find", NONE, f.blockOf(0));
        f.find();
        due("found", 0, f.blockOf(0));
        f.box(62, 50, 10, 10);
        due("behind it, beside the other", NONE, f.blockOf(1));
        due("the other as before", 0, f.blockOf(0));
        f.find();
        due("found too", 0, f.blockOf(1));
        f.clear();
        f.box(50, 50, 10, 10);
        due("behind it, with the number of one that went", NONE, f.blockOf(0));
        f.find();
        due("found then", 0, f.blockOf(0));
        BlockFinder none = new BlockFinder(200, 200);
        none.find();
        none.box(50, 50, 10, 10);
        due("behind a find without boxes", NONE, none.blockOf(0));
    }

    private static void noSuchBox() {
        BlockFinder f = new BlockFinder(200, 200);
        due("none at all", UNKNOWN, f.blockOf(0));
        f.box(50, 50, 10, 10);
        f.box(150, 150, 10, 10);
        f.frame(0, 0, 10, 10);
        f.frame(0, 0, 10, 10);
        f.frame(0, 0, 10, 10);
        f.box(195, 195, 10, 10);
        int[] noBoxes = {LEAST, LEAST + 1, -64, -1, 2, 3, 63, 64, 65, MOST - 1, MOST};
        for (int i : noBoxes) {
            due("box " + i + " before any find", UNKNOWN, f.blockOf(i));
        }
        f.find();
        for (int i : noBoxes) {
            due("box " + i, UNKNOWN, f.blockOf(i));
        }
        due("the last", 0, f.blockOf(1));
        f.clear();
        due("one that went", UNKNOWN, f.blockOf(0));
        due("the last that went", UNKNOWN, f.blockOf(1));
        f.box(50, 50, 10, 10);
        due("the last that went, behind a new one", UNKNOWN, f.blockOf(1));
    }

    private static void candidates() {
        BlockFinder f = new BlockFinder(200, 200);
        due("before any find", 0, f.candidates());
        f.box(0, 0, 10, 10);
        f.box(100, 100, 9, 9);
        due("with boxes, before any find", 0, f.candidates());
        f.find();
        due("one of two", 1, f.candidates());
        f.box(180, 0, 10, 10);
        f.box(20, 150, 9, 9);
        due("till the next find", 1, f.candidates());
        f.find();
        due("two of four", 2, f.candidates());
        f.frame(0, 0, 200, 200);
        f.find();
        due("all of four", 4, f.candidates());
        f.clear();
        due("they stay", 4, f.candidates());
        f.find();
        due("none without boxes", 0, f.candidates());
        due("of the least points", 1, foundOn(100, 100, 0, 0, 99, 99).candidates());
        due("a sender alone", 0, foundOn(200, 200, 0, 0, 10, 10).candidates());
        due("a stamp alone", 0, foundOn(200, 200, 180, 0, 10, 10).candidates());
        BlockFinder full = new BlockFinder(4096, 4096);
        for (int i = 0; i < 64; i++) {
            full.box(2100 + 100 * (i % 8), 2100 + 100 * (i / 8), 4, 4);
        }
        full.find();
        due("64 of 64", 64, full.candidates());
    }

    private static void clearHowMany() {
        BlockFinder f = new BlockFinder(200, 200);
        due("nothing to clear", 0, f.clear());
        f.frame(0, 0, 10, 10);
        due("panes are no boxes", 0, f.clear());
        f.box(0, 0, 201, 1);
        due("a refused box is none", 0, f.clear());
        f.box(50, 50, 10, 10);
        due("one", 1, f.clear());
        due("none is left", 0, f.clear());
        for (int i = 0; i < 65; i++) {
            f.box(50, 50, 10, 10);
        }
        f.find();
        due("64 and one refused", 64, f.clear());
        due("none is left of them", 0, f.clear());
        due("none is found", 0, f.find());
        due("the next box's number", 0, f.box(50, 50, 10, 10));
    }

    private static void clearLeavesPanes() {
        int[] box = {50, 50, 10, 10};
        BlockFinder f = foundWithPane(200, 200, box, 0, 0, 30, 30);
        f.clear();
        f.box(10, 10, 10, 10);
        f.find();
        due("a sender in the pane", 45, f.points(0));
        due("the next pane's number", 1, f.frame(0, 0, 10, 10));
    }

    private static void clearLeavesFound() {
        BlockFinder f = twoBlocks();
        String want = allFound(f);
        f.clear();
        same("behind clear()", want, allFound(f));
        f.clear();
        same("behind a second one", want, allFound(f));
    }
}
