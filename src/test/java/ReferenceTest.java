import java.util.ArrayDeque;
import java.util.ArrayList;
import java.util.Arrays;
import java.util.Comparator;
import java.util.Deque;
import java.util.List;
import java.util.Random;

/**
 * Compares every answer with a second program, written from the document in another manner, over many
 * small crowded sheets, on which edges are met often. The seeds are fixed: each run is the same.
 */
public final class ReferenceTest {
    private static final int RUNS = 6000;
    private static final int MOST_CALLS = 512;
    private static final int MOST_CALLS_OF_A_ROUND = 150;
    private static int wrong = 0;

    public static void main(String[] args) {
        for (int seed = 0; seed < RUNS && wrong < 20; seed++) {
            new Run(seed).go();
        }
        System.out.println(wrong == 0 ? "ReferenceTest: all as due" : "ReferenceTest: " + wrong + " wrong");
        if (wrong != 0) {
            System.exit(1);
        }
    }

    /** One object and its model under the same calls. */
    private static final class Run {
        final int seed;
        final Random random;
        final int width;
        final int height;
        final int grain;
        final BlockFinder tested;
        final Model model;
        int calls = 0;

        Run(int seed) {
            this.seed = seed;
            random = new Random(seed);
            width = side();
            height = side();
            // Places and sides in coarse steps make equal ends, and so the edges, frequent.
            grain = 1 + random.nextInt(6);
            tested = new BlockFinder(width, height);
            model = new Model(width, height);
        }

        int side() {
            int[] kinds = {random.nextInt(12) - 2, 10 + random.nextInt(60), 40 + random.nextInt(200),
                random.nextInt(5000)};
            return kinds[random.nextInt(kinds.length)];
        }

        void go() {
            int rounds = 1 + random.nextInt(4);
            for (int r = 0; r < rounds && calls + MOST_CALLS_OF_A_ROUND <= MOST_CALLS; r++) {
                int boxes = random.nextInt(random.nextInt(8) == 0 ? 70 : 14);
                for (int i = 0; i < boxes; i++) {
                    int[] b = rectangle();
                    due("box" + Arrays.toString(b), model.box(b), tested.box(b[0], b[1], b[2], b[3]));
                }
                int panes = random.nextInt(4);
                for (int i = 0; i < panes; i++) {
                    int[] p = rectangle();
                    due("frame" + Arrays.toString(p), model.frame(p), tested.frame(p[0], p[1], p[2], p[3]));
                }
                due("find", model.find(), tested.find());
                askSome(60);
                if (random.nextInt(3) == 0) {
                    due("clear", model.clear(), tested.clear());
                    askSome(10);
                }
            }
        }

        int[] rectangle() {
            if (random.nextInt(40) == 0) {
                return new int[] {number(), number(), number(), number()};
            }
            int w = grain * (1 + random.nextInt(random.nextBoolean() ? 3 : 8));
            int h = grain * (1 + random.nextInt(random.nextBoolean() ? 3 : 8));
            int room = random.nextInt(4) == 0 ? 4096 : 25 * grain;
            int x = grain * random.nextInt(1 + Math.max(0, Math.min(room, model.w - w)) / grain);
            int y = grain * random.nextInt(1 + Math.max(0, Math.min(room, model.h - h)) / grain);
            boolean fromTheEnd = random.nextInt(4) == 0;
            return fromTheEnd ? new int[] {model.w - w - x, model.h - h - y, w, h} : new int[] {x, y, w, h};
        }

        int number() {
            int[] kinds = {Integer.MIN_VALUE, Integer.MAX_VALUE, -1, 0, 1, random.nextInt(), width, height, 4096};
            return kinds[random.nextInt(kinds.length)];
        }

        int index() {
            return random.nextInt(12) == 0 ? number() : random.nextInt(2 + model.blocks.size());
        }

        void askSome(int questions) {
            for (int q = 0; q < questions; q++) {
                ask();
            }
        }

        void ask() {
            int i = index();
            int what = random.nextInt(12) == 0 ? number() : random.nextInt(7) - random.nextInt(2);
            switch (random.nextInt(7)) {
                case 0:
                    due("block(" + i + ", " + what + ")", model.block(i, what), tested.block(i, what));
                    break;
                case 1:
                    int k = random.nextInt(12) == 0 ? number() : random.nextInt(6) - random.nextInt(2);
                    due("line(" + i + ", " + k + ", " + what + ")", model.line(i, k, what), tested.line(i, k, what));
                    break;
                case 2:
                    due("points(" + i + ")", model.points(i), tested.points(i));
                    break;
                case 3:
                    due("printed(" + i + ")", model.printed(i) ? 1 : 0, tested.printed(i) ? 1 : 0);
                    break;
                case 4:
                    due("turned()", model.turned ? 1 : 0, tested.turned() ? 1 : 0);
                    break;
                case 5:
                    int box = random.nextInt(12) == 0 ? number() : random.nextInt(2 + model.boxes.size());
                    due("blockOf(" + box + ")", model.blockOf(box), tested.blockOf(box));
                    break;
                default:
                    due("candidates()", model.candidates(), tested.candidates());
                    break;
            }
        }

        void due(String call, int want, int got) {
            calls++;
            if (calls > MOST_CALLS) {
                throw new IllegalStateException("answers to later calls are free");
            }
            if (want != got) {
                wrong++;
                System.out.println("seed " + seed + ", call " + calls + ": " + call + " answered " + got
                        + ", due is " + want);
            }
        }
    }

    /** A line or a block: x, y, w, h as they lie on the sheet, and the numbers of its boxes. */
    private static final class Part {
        int[] rect;
        final List<Integer> boxes = new ArrayList<>();
        final List<Part> lines = new ArrayList<>();
        int points;
        boolean printed;

        int least() {
            return boxes.stream().mapToInt(Integer::intValue).min().orElseThrow();
        }
    }

    private interface Near {
        boolean test(int[] a, int[] b);
    }

    private static final class Model {
        final int w;
        final int h;
        final List<int[]> boxes = new ArrayList<>();
        final List<Integer> foundIn = new ArrayList<>();
        final List<int[]> panes = new ArrayList<>();
        List<Part> blocks = new ArrayList<>();
        boolean turned = false;

        Model(int width, int height) {
            w = width < 1 ? 1 : width > 4096 ? 4096 : width;
            h = height < 1 ? 1 : height > 4096 ? 4096 : height;
        }

        int put(List<int[]> row, int room, int[] r) {
            boolean on = r[2] >= 1 && r[3] >= 1 && r[0] >= 0 && r[1] >= 0
                    && (long) r[0] + r[2] <= w && (long) r[1] + r[3] <= h;
            if (!on) {
                return -12;
            }
            if (row.size() == room) {
                return -14;
            }
            row.add(r);
            return row.size() - 1;
        }

        int box(int[] r) {
            int number = put(boxes, 64, r);
            if (number >= 0) {
                foundIn.add(-1);
            }
            return number;
        }

        int frame(int[] r) {
            return put(panes, 8, r);
        }

        int clear() {
            int gone = boxes.size();
            boxes.clear();
            foundIn.clear();
            return gone;
        }

        int find() {
            List<List<Integer>> standing = hang(boxes, ReferenceTest::boxesNear);
            List<List<Integer>> lying = hang(exchanged(boxes), ReferenceTest::boxesNear);
            turned = lying.size() < standing.size();
            List<Part> lines = new ArrayList<>();
            for (List<Integer> set : turned ? lying : standing) {
                Part line = new Part();
                line.boxes.addAll(set);
                line.rect = around(set);
                lines.add(line);
            }
            lines.sort(byPlace());
            List<int[]> rects = new ArrayList<>();
            lines.forEach(line -> rects.add(line.rect));
            blocks = new ArrayList<>();
            for (List<Integer> set : hang(turned ? exchanged(rects) : rects, ReferenceTest::linesNear)) {
                Part block = new Part();
                set.stream().sorted().forEach(i -> block.lines.add(lines.get(i)));
                block.lines.forEach(line -> block.boxes.addAll(line.boxes));
                block.rect = around(block.boxes);
                block.points = pointsOf(block);
                block.printed = printedOf(block);
                blocks.add(block);
            }
            blocks.sort(Comparator.<Part>comparingInt(b -> -b.points).thenComparing(byPlace()));
            for (int i = 0; i < blocks.size(); i++) {
                for (int b : blocks.get(i).boxes) {
                    foundIn.set(b, i);
                }
            }
            return blocks.size();
        }

        Comparator<Part> byPlace() {
            int first = turned ? 0 : 1;
            return Comparator.<Part>comparingInt(p -> p.rect[first])
                    .thenComparingInt(p -> p.rect[1 - first]).thenComparingInt(Part::least);
        }

        int[] around(List<Integer> set) {
            int x = 9999;
            int y = 9999;
            int right = 0;
            int lower = 0;
            for (int i : set) {
                int[] r = boxes.get(i);
                x = Math.min(x, r[0]);
                y = Math.min(y, r[1]);
                right = Math.max(right, r[0] + r[2]);
                lower = Math.max(lower, r[1] + r[3]);
            }
            return new int[] {x, y, right - x, lower - y};
        }

        int pointsOf(Part block) {
            int x = block.rect[0];
            int y = block.rect[1];
            int right = x + block.rect[2];
            int lower = y + block.rect[3];
            boolean inPane = panes.stream().anyMatch(p ->
                    p[0] <= x && p[1] <= y && right <= p[0] + p[2] && lower <= p[1] + p[3]);
            boolean stamp = 4 * x >= 3 * w && 3 * lower <= h;
            boolean sender = 2 * right <= w && 4 * lower <= h;
            if ((stamp || sender) && !inPane) {
                return 0;
            }
            int lines = block.lines.size();
            return (lines > 1 && lines < 7 ? 30 : 10)
                    + (2 * x + block.rect[2] >= w ? 15 : 0)
                    + (2 * y + block.rect[3] >= h ? 15 : 0)
                    + (2L * block.rect[2] * block.rect[3] <= (long) w * h ? 10 : 0)
                    + (inPane ? 25 : 0);
        }

        boolean printedOf(Part block) {
            int side = turned ? 2 : 3;
            int[] heights = block.boxes.stream().mapToInt(b -> boxes.get(b)[side]).sorted().toArray();
            int highest = heights[heights.length - 1];
            return 4 * (highest - heights[0]) <= highest;
        }

        boolean known(int i) {
            return i >= 0 && i < blocks.size();
        }

        int block(int i, int what) {
            if (!known(i)) {
                return -11;
            }
            if (what < 0 || what > 5) {
                return -12;
            }
            Part b = blocks.get(i);
            return what < 4 ? b.rect[what] : what == 4 ? b.lines.size() : b.boxes.size();
        }

        int line(int i, int k, int what) {
            if (!known(i)) {
                return -11;
            }
            if (what < 0 || what > 5) {
                return -12;
            }
            List<Part> lines = blocks.get(i).lines;
            if (k < 0 || k >= lines.size()) {
                return -1;
            }
            Part line = lines.get(k);
            return what < 4 ? line.rect[what] : what == 4 ? line.boxes.size() : line.least();
        }

        int points(int i) {
            return known(i) ? blocks.get(i).points : -11;
        }

        boolean printed(int i) {
            return known(i) && blocks.get(i).printed;
        }

        int blockOf(int box) {
            return box >= 0 && box < boxes.size() ? foundIn.get(box) : -11;
        }

        int candidates() {
            return (int) blocks.stream().filter(b -> b.points != 0).count();
        }
    }

    private static List<int[]> exchanged(List<int[]> rects) {
        List<int[]> made = new ArrayList<>();
        rects.forEach(r -> made.add(new int[] {r[1], r[0], r[3], r[2]}));
        return made;
    }

    private static boolean boxesNear(int[] a, int[] b) {
        int common = Math.min(a[1] + a[3], b[1] + b[3]) - Math.max(a[1], b[1]);
        int gap = Math.max(a[0], b[0]) - Math.min(a[0] + a[2], b[0] + b[2]);
        return 2 * common >= Math.min(a[3], b[3]) && 2 * gap <= 3 * Math.max(a[3], b[3]);
    }

    private static boolean linesNear(int[] a, int[] b) {
        int gap = Math.max(a[1], b[1]) - Math.min(a[1] + a[3], b[1] + b[3]);
        return Math.abs(a[0] - b[0]) <= Math.max(a[3], b[3]) && gap <= 2 * Math.min(a[3], b[3]);
    }

    /** The sets that hang together, each walked from its least member on. */
    private static List<List<Integer>> hang(List<int[]> rects, Near near) {
        List<List<Integer>> sets = new ArrayList<>();
        boolean[] seen = new boolean[rects.size()];
        for (int start = 0; start < seen.length; start++) {
            if (seen[start]) {
                continue;
            }
            List<Integer> set = new ArrayList<>();
            Deque<Integer> open = new ArrayDeque<>(List.of(start));
            seen[start] = true;
            while (!open.isEmpty()) {
                int at = open.remove();
                set.add(at);
                for (int next = 0; next < seen.length; next++) {
                    if (!seen[next] && near.test(rects.get(at), rects.get(next))) {
                        seen[next] = true;
                        open.add(next);
                    }
                }
            }
            sets.add(set);
        }
        return sets;
    }
}
