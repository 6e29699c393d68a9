/**
 * Finds where the address stands on a sheet: boxes of ink are joined to lines, lines to blocks, and
 * the blocks are ranked by their points.
 *
 * <p>All rows are made once, with the object, and used again by every find(): no call makes an object.
 */
public final class BlockFinder {
    public static final int NONE = -1, UNKNOWN = -11, OUTSIDE = -12, ROOM = -14;

    private static final int LONGEST_SIDE = 4096;
    private static final int MOST_BOXES = 64;
    private static final int MOST_PANES = 8;
    private static final int LAST_DETAIL = 5;

    private final int sheetWidth;
    private final int sheetHeight;
    private final Rectangles boxes = new Rectangles(MOST_BOXES);
    private final Rectangles panes = new Rectangles(MOST_PANES);
    private final Sets standingLines = new Sets();
    private final Sets turnedLines = new Sets();
    private final Sets nearLines = new Sets();

    // What was found. It outlives the boxes that it was found of, so nothing here is read from them later.
    private final Groups lines = new Groups();
    private final Groups blocks = new Groups();
    private final int[] blockSize = new int[MOST_BOXES];
    private final int[] highestBox = new int[MOST_BOXES];
    private final int[] lowestBox = new int[MOST_BOXES];
    private final int[] placeOfBox = new int[MOST_BOXES];
    private boolean foundTurned = false;

    public BlockFinder(int width, int height) {
        sheetWidth = nearestSide(width);
        sheetHeight = nearestSide(height);
    }

    public int box(int x, int y, int w, int h) {
        int number = addTo(boxes, x, y, w, h);
        if (number >= 0) {
            placeOfBox[number] = NONE;
        }
        return number;
    }

    public int frame(int x, int y, int w, int h) {
        return addTo(panes, x, y, w, h);
    }

    public int find() {
        joinBoxes(standingLines, false);
        joinBoxes(turnedLines, true);
        foundTurned = turnedLines.count < standingLines.count;
        lines.gather(boxes, foundTurned ? turnedLines : standingLines);
        joinLines();
        blocks.gather(lines.rectangles, nearLines);
        measureBoxesOfBlocks();
        for (int b = 0; b < blocks.size(); b++) {
            blocks.points[b] = judge(b);
        }
        lines.putInOrder(foundTurned);
        blocks.putInOrder(foundTurned);
        for (int i = 0; i < boxes.count; i++) {
            placeOfBox[i] = blocks.place[groupOfBox(i)];
        }
        return blocks.size();
    }

    public int block(int i, int what) {
        if (!blocks.has(i)) {
            return UNKNOWN;
        }
        if (!isDetail(what)) {
            return OUTSIDE;
        }
        int found = blocks.order[i];
        switch (what) {
            case 4:
                return blocks.parts[found];
            case 5:
                return blockSize[found];
            default:
                return blocks.rectangles.side(found, what);
        }
    }

    public int line(int block, int k, int what) {
        if (!blocks.has(block)) {
            return UNKNOWN;
        }
        if (!isDetail(what)) {
            return OUTSIDE;
        }
        int found = lineInBlock(blocks.order[block], k);
        if (found < 0) {
            return NONE;
        }
        switch (what) {
            case 4:
                return lines.parts[found];
            case 5:
                return lines.leastPart[found];
            default:
                return lines.rectangles.side(found, what);
        }
    }

    public int points(int block) {
        return blocks.has(block) ? blocks.points[blocks.order[block]] : UNKNOWN;
    }

    public boolean printed(int block) {
        if (!blocks.has(block)) {
            return false;
        }
        int found = blocks.order[block];
        return 4 * (highestBox[found] - lowestBox[found]) <= highestBox[found];
    }

    public boolean turned() {
        return foundTurned;
    }

    public int blockOf(int box) {
        return boxes.has(box) ? placeOfBox[box] : UNKNOWN;
    }

    public int candidates() {
        int some = 0;
        for (int b = 0; b < blocks.size(); b++) {
            if (blocks.points[b] > 0) {
                some++;
            }
        }
        return some;
    }

    public int clear() {
        int gone = boxes.count;
        boxes.count = 0;
        return gone;
    }

    private static int nearestSide(int side) {
        return Math.max(1, Math.min(LONGEST_SIDE, side));
    }

    private static boolean isDetail(int what) {
        return what >= 0 && what <= LAST_DETAIL;
    }

    private int addTo(Rectangles row, int x, int y, int w, int h) {
        return liesOnSheet(x, y, w, h) ? row.add(x, y, x + w, y + h) : OUTSIDE;
    }

    private boolean liesOnSheet(int x, int y, int w, int h) {
        // The ends are compared by differences, since x + w can run over the range of int.
        return w >= 1 && h >= 1
                && x >= 0 && x <= sheetWidth - w
                && y >= 0 && y <= sheetHeight - h;
    }

    private void joinBoxes(Sets sets, boolean turned) {
        sets.scatter(boxes.count);
        for (int i = 0; i < boxes.count; i++) {
            for (int j = i + 1; j < boxes.count; j++) {
                if (boxes.areNearAsBoxes(i, j, turned)) {
                    sets.join(i, j);
                }
            }
        }
    }

    private void joinLines() {
        nearLines.scatter(lines.size());
        for (int i = 0; i < lines.size(); i++) {
            for (int j = i + 1; j < lines.size(); j++) {
                if (lines.rectangles.areNearAsLines(i, j, foundTurned)) {
                    nearLines.join(i, j);
                }
            }
        }
    }

    /** The number of a box's block among the blocks as they were gathered, not yet its place in their order. */
    private int groupOfBox(int box) {
        return blocks.groupOf[lines.groupOf[box]];
    }

    private void measureBoxesOfBlocks() {
        for (int b = 0; b < blocks.size(); b++) {
            blockSize[b] = 0;
            highestBox[b] = 0;
            lowestBox[b] = LONGEST_SIDE;
        }
        for (int i = 0; i < boxes.count; i++) {
            int b = groupOfBox(i);
            int height = boxes.height(i, foundTurned);
            blockSize[b]++;
            highestBox[b] = Math.max(highestBox[b], height);
            lowestBox[b] = Math.min(lowestBox[b], height);
        }
    }

    private int judge(int b) {
        boolean inPane = liesInPane(b);
        if (!inPane && (isStamp(b) || isSender(b))) {
            return 0;
        }
        int sum = blocks.parts[b] >= 2 && blocks.parts[b] <= 6 ? 30 : 10;
        // Both ends together are twice the middle.
        if (blocks.rectangles.left[b] + blocks.rectangles.right[b] >= sheetWidth) {
            sum += 15;
        }
        if (blocks.rectangles.upper[b] + blocks.rectangles.lower[b] >= sheetHeight) {
            sum += 15;
        }
        if (2 * blocks.rectangles.area(b) <= sheetWidth * sheetHeight) {
            sum += 10;
        }
        return inPane ? sum + 25 : sum;
    }

    private boolean isStamp(int b) {
        return 4 * blocks.rectangles.left[b] >= 3 * sheetWidth
                && 3 * blocks.rectangles.lower[b] <= sheetHeight;
    }

    private boolean isSender(int b) {
        return 2 * blocks.rectangles.right[b] <= sheetWidth
                && 4 * blocks.rectangles.lower[b] <= sheetHeight;
    }

    private boolean liesInPane(int b) {
        for (int p = 0; p < panes.count; p++) {
            if (panes.encloses(p, blocks.rectangles, b)) {
                return true;
            }
        }
        return false;
    }

    private int lineInBlock(int b, int k) {
        int before = 0;
        for (int i = 0; i < lines.size(); i++) {
            int candidate = lines.order[i];
            if (blocks.groupOf[candidate] == b) {
                if (before == k) {
                    return candidate;
                }
                before++;
            }
        }
        return NONE;
    }

    /**
     * Rectangles by number, kept by their ends; a right or lower end is the first place behind it.
     *
     * <p>Methods that ask whether the sheet is turned exchange x and y, so that nearness and order are
     * written once, as the document tells them for a sheet that stands.
     */
    private static final class Rectangles {
        final int[] left;
        final int[] upper;
        final int[] right;
        final int[] lower;
        int count = 0;

        Rectangles(int room) {
            int length = Math.max(0, room);
            left = new int[length];
            upper = new int[length];
            right = new int[length];
            lower = new int[length];
        }

        boolean has(int i) {
            return i >= 0 && i < count;
        }

        /** The number of the new rectangle, or ROOM. */
        int add(int leftEnd, int upperEnd, int rightEnd, int lowerEnd) {
            if (count >= left.length) {
                return ROOM;
            }
            int number = count;
            left[number] = leftEnd;
            upper[number] = upperEnd;
            right[number] = rightEnd;
            lower[number] = lowerEnd;
            count++;
            return number;
        }

        void stretchOver(int i, Rectangles others, int j) {
            left[i] = Math.min(left[i], others.left[j]);
            upper[i] = Math.min(upper[i], others.upper[j]);
            right[i] = Math.max(right[i], others.right[j]);
            lower[i] = Math.max(lower[i], others.lower[j]);
        }

        boolean encloses(int i, Rectangles others, int j) {
            return left[i] <= others.left[j] && right[i] >= others.right[j]
                    && upper[i] <= others.upper[j] && lower[i] >= others.lower[j];
        }

        int area(int i) {
            return (right[i] - left[i]) * (lower[i] - upper[i]);
        }

        /** What the face tells under 0 to 3 of blocks and of lines alike. */
        int side(int i, int what) {
            switch (what) {
                case 0:
                    return left[i];
                case 1:
                    return upper[i];
                case 2:
                    return right[i] - left[i];
                default:
                    return lower[i] - upper[i];
            }
        }

        int leftEnd(int i, boolean turned) {
            return turned ? upper[i] : left[i];
        }

        int upperEnd(int i, boolean turned) {
            return turned ? left[i] : upper[i];
        }

        int rightEnd(int i, boolean turned) {
            return turned ? lower[i] : right[i];
        }

        int lowerEnd(int i, boolean turned) {
            return turned ? right[i] : lower[i];
        }

        int height(int i, boolean turned) {
            return lowerEnd(i, turned) - upperEnd(i, turned);
        }

        boolean areNearAsBoxes(int i, int j, boolean turned) {
            int lesserHeight = Math.min(height(i, turned), height(j, turned));
            int greaterHeight = Math.max(height(i, turned), height(j, turned));
            int gap = Math.max(leftEnd(i, turned), leftEnd(j, turned))
                    - Math.min(rightEnd(i, turned), rightEnd(j, turned));
            // The height in common is what a gap between the two would be, with its sign changed.
            int common = -gapDownwards(i, j, turned);
            return 2 * common >= lesserHeight && 2 * gap <= 3 * greaterHeight;
        }

        boolean areNearAsLines(int i, int j, boolean turned) {
            int lesserHeight = Math.min(height(i, turned), height(j, turned));
            int greaterHeight = Math.max(height(i, turned), height(j, turned));
            int indent = Math.abs(leftEnd(i, turned) - leftEnd(j, turned));
            return indent <= greaterHeight && gapDownwards(i, j, turned) <= 2 * lesserHeight;
        }

        int gapDownwards(int i, int j, boolean turned) {
            return Math.max(upperEnd(i, turned), upperEnd(j, turned))
                    - Math.min(lowerEnd(i, turned), lowerEnd(j, turned));
        }
    }

    /** Numbered things that hang together in sets. A set is known by its least member. */
    private static final class Sets {
        final int[] least = new int[MOST_BOXES];
        int members = 0;
        int count = 0;

        void scatter(int things) {
            members = Math.max(0, Math.min(least.length, things));
            count = members;
            for (int i = 0; i < members; i++) {
                least[i] = i;
            }
        }

        void join(int i, int j) {
            int kept = Math.min(least[i], least[j]);
            int given = Math.max(least[i], least[j]);
            if (kept == given) {
                return;
            }
            for (int m = 0; m < members; m++) {
                if (least[m] == given) {
                    least[m] = kept;
                }
            }
            count--;
        }
    }

    /**
     * Lines, made of boxes, or blocks, made of lines.
     *
     * <p>Groups are numbered as their least parts come. Lines are so numbered by their least boxes, and
     * blocks, whose least line holds their least box, are too.
     */
    private static final class Groups {
        final Rectangles rectangles = new Rectangles(MOST_BOXES);
        final int[] parts = new int[MOST_BOXES];
        final int[] leastPart = new int[MOST_BOXES];
        /** Lines have none, so that their places alone put them in order. */
        final int[] points = new int[MOST_BOXES];
        /** By the number of a part: its group. */
        final int[] groupOf = new int[MOST_BOXES];
        /** By place in the order: the group that stands there. */
        final int[] order = new int[MOST_BOXES];
        /** By group: its place in the order. */
        final int[] place = new int[MOST_BOXES];

        int size() {
            return rectangles.count;
        }

        boolean has(int i) {
            return rectangles.has(i);
        }

        void gather(Rectangles from, Sets sets) {
            rectangles.count = 0;
            for (int i = 0; i < from.count; i++) {
                if (sets.least[i] == i) {
                    begin(from, i);
                } else {
                    extend(groupOf[sets.least[i]], from, i);
                }
            }
        }

        void begin(Rectangles from, int i) {
            int group = rectangles.add(from.left[i], from.upper[i], from.right[i], from.lower[i]);
            if (group >= 0) {
                parts[group] = 1;
                leastPart[group] = i;
                groupOf[i] = group;
            }
        }

        void extend(int group, Rectangles from, int i) {
            rectangles.stretchOver(group, from, i);
            parts[group]++;
            groupOf[i] = group;
        }

        void putInOrder(boolean turned) {
            for (int g = 0; g < size(); g++) {
                int free = g;
                while (free > 0 && comesBefore(g, order[free - 1], turned)) {
                    order[free] = order[free - 1];
                    free--;
                }
                order[free] = g;
            }
            for (int p = 0; p < size(); p++) {
                place[order[p]] = p;
            }
        }

        boolean comesBefore(int a, int b, boolean turned) {
            if (points[a] != points[b]) {
                return points[a] > points[b];
            }
            int down = rectangles.upperEnd(a, turned) - rectangles.upperEnd(b, turned);
            if (down != 0) {
                return down < 0;
            }
            int across = rectangles.leftEnd(a, turned) - rectangles.leftEnd(b, turned);
            if (across != 0) {
                return across < 0;
            }
            return a < b;
        }
    }
}
