/** Words, sheets and questions that the tests of the document's boundary cases share. */
abstract class Boundaries {
    static final int LEAST = Integer.MIN_VALUE;
    static final int MOST = Integer.MAX_VALUE;
    static final int NONE = -1;
    static final int UNKNOWN = -11;
    static final int OUTSIDE = -12;
    static final int ROOM = -14;

    private static String sentence = "";
    private static int tests = 0;
    private static int wrong = 0;

    /** Tells how it went, and ends the program with exit code 1 if a test failed. */
    static void end(String name) {
        System.out.println(name + ": " + tests + " sentences, " + (wrong == 0 ? "all as due" : wrong + " wrong"));
        if (wrong != 0) {
            System.exit(1);
        }
    }

    /** One sentence. Its test may break off without keeping the others from being run. */
    static void says(String words, Runnable test) {
        sentence = words;
        tests++;
        try {
            test.run();
        } catch (RuntimeException | StackOverflowError thrown) {
            wrong++;
            System.out.println("[" + sentence + "] threw " + thrown);
        }
    }

    static void due(String what, int want, int got) {
        if (got != want) {
            wrong++;
            System.out.println("[" + sentence + "] " + what + " answered " + got + ", due is " + want);
        }
    }

    static void due(String what, boolean want, boolean got) {
        due(what, want ? 1 : 0, got ? 1 : 0);
    }

    static void same(String what, String want, String got) {
        if (!got.equals(want)) {
            wrong++;
            System.out.println("[" + sentence + "] " + what + " is " + got + ", due is " + want);
        }
    }

    // Sheets

    /** A sheet with boxes, given as x, y, w, h in turn. */
    static BlockFinder sheet(int width, int height, int... sides) {
        BlockFinder made = new BlockFinder(width, height);
        for (int i = 0; i + 3 < sides.length; i += 4) {
            due("box " + i / 4 + " of a sheet", i / 4, made.box(sides[i], sides[i + 1], sides[i + 2], sides[i + 3]));
        }
        return made;
    }

    static BlockFinder foundOn(int width, int height, int... sides) {
        BlockFinder made = sheet(width, height, sides);
        made.find();
        return made;
    }

    /** The same on a sheet of 200 by 200. */
    static BlockFinder found(int... sides) {
        return foundOn(200, 200, sides);
    }

    /** The same boxes with x and y, widths and heights exchanged. */
    static int[] exchanged(int... sides) {
        int[] made = new int[sides.length];
        for (int i = 0; i + 3 < sides.length; i += 4) {
            made[i] = sides[i + 1];
            made[i + 1] = sides[i];
            made[i + 2] = sides[i + 3];
            made[i + 3] = sides[i + 2];
        }
        return made;
    }

    /** A sheet with boxes, and with one pane, which is given last. */
    static BlockFinder foundWithPane(int width, int height, int[] sides, int... pane) {
        BlockFinder made = sheet(width, height, sides);
        due("the pane of a sheet", 0, made.frame(pane[0], pane[1], pane[2], pane[3]));
        made.find();
        return made;
    }

    /** So many lines in one block: narrow boxes below one another, too far apart to be one line if turned. */
    static BlockFinder stack(int lines) {
        BlockFinder made = new BlockFinder(4000, 4000);
        for (int i = 0; i < lines; i++) {
            made.box(1000, 1000 + 14 * i, 2, 10);
        }
        made.find();
        return made;
    }

    // Questions

    static int blocks(BlockFinder f) {
        int n = 0;
        while (n < 65 && f.block(n, 0) != UNKNOWN) {
            n++;
        }
        return n;
    }

    static int lines(BlockFinder f) {
        int sum = 0;
        int blocks = blocks(f);
        for (int i = 0; i < blocks; i++) {
            sum += f.block(i, 4);
        }
        return sum;
    }

    static void dueLines(String what, int want, boolean turned, int... sides) {
        BlockFinder f = found(sides);
        due(what + ": lines", want, lines(f));
        due(what + ": turned", turned, f.turned());
    }

    static void dueBlocks(String what, int want, int lines, boolean turned, int... sides) {
        BlockFinder f = found(sides);
        due(what + ": blocks", want, blocks(f));
        due(what + ": lines", lines, lines(f));
        due(what + ": turned", turned, f.turned());
    }

    static void dueBlock(String what, BlockFinder f, int i, int... want) {
        for (int detail = 0; detail < want.length; detail++) {
            due(what + ": block(" + i + ", " + detail + ")", want[detail], f.block(i, detail));
        }
    }

    static void dueLine(String what, BlockFinder f, int i, int k, int... want) {
        for (int detail = 0; detail < want.length; detail++) {
            due(what + ": line(" + i + ", " + k + ", " + detail + ")", want[detail], f.line(i, k, detail));
        }
    }

    /** The least boxes of the lines of block 0, in their order. */
    static String lineOrder(BlockFinder f) {
        StringBuilder text = new StringBuilder();
        for (int k = 0; k < 65 && f.line(0, k, 5) >= 0; k++) {
            text.append(f.line(0, k, 5)).append(' ');
        }
        return text.toString().trim();
    }

    /** The blocks of boxes 0, 1, .. in turn. */
    static String blocksOfBoxes(BlockFinder f, int boxes) {
        StringBuilder text = new StringBuilder();
        for (int i = 0; i < boxes; i++) {
            text.append(f.blockOf(i)).append(' ');
        }
        return text.toString().trim();
    }

    /** All that is told of what was found, but for blockOf(). */
    static String allFound(BlockFinder f) {
        StringBuilder text = new StringBuilder();
        int blocks = blocks(f);
        for (int i = 0; i <= blocks; i++) {
            text.append("block ").append(i).append(':');
            for (int detail = 0; detail < 6; detail++) {
                text.append(' ').append(f.block(i, detail));
                for (int k = 0; k < 4; k++) {
                    text.append('/').append(f.line(i, k, detail));
                }
            }
            text.append(" points ").append(f.points(i)).append(" printed ").append(f.printed(i)).append("; ");
        }
        return text.append(f.turned()).append(' ').append(f.candidates()).toString();
    }

    static void duePoints(String what, int want, int width, int height, int... sides) {
        BlockFinder f = foundOn(width, height, sides);
        due(what + ": blocks", 1, blocks(f));
        due(what, want, f.points(0));
    }
}
