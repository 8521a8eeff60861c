import java.util.ArrayDeque;
import java.util.ArrayList;
import java.util.Comparator;
import java.util.Deque;
import java.util.HashMap;
import java.util.HashSet;
import java.util.List;
import java.util.Map;
import java.util.Set;
import java.util.TreeMap;

/** The document once more, written slowly and with the Java library, to compare the program with. */
final class PlainKite {
    private static final class Cell {
        int colour;
        int wetness;
        boolean hasSpar;

        Cell copy() {
            Cell copy = new Cell();
            copy.colour = colour;
            copy.wetness = wetness;
            copy.hasSpar = hasSpar;
            return copy;
        }
    }

    private static final class Data {
        int width = 5;
        int height = 5;
        int time = 0;
        int cloth = 1;
        int wood = 5;
        Map<Integer, Integer> weights = new HashMap<>();
        Map<Set<Integer>, Integer> mixes = new HashMap<>();
        List<List<String>> patterns = new ArrayList<>();
        TreeMap<Integer, Cell> cells = new TreeMap<>();

        Data copy() {
            Data copy = new Data();
            copy.width = width;
            copy.height = height;
            copy.time = time;
            copy.cloth = cloth;
            copy.wood = wood;
            copy.weights.putAll(weights);
            copy.mixes.putAll(mixes);
            copy.patterns.addAll(patterns);
            for (Map.Entry<Integer, Cell> entry : cells.entrySet()) {
                copy.cells.put(entry.getKey(), entry.getValue().copy());
            }
            return copy;
        }

        void makeCells(List<Integer> reaches) {
            cells.clear();
            for (int y = 0; y < height; y++) {
                for (int x = 0; x < width; x++) {
                    if (Math.abs(x - width / 2) <= reaches.get(y)) {
                        cells.put(y * width + x, new Cell());
                    }
                }
            }
        }

        Integer number(long x, long y) {
            boolean isInside = x >= 0 && x < width && y >= 0 && y < height;
            int number = isInside ? (int) (y * width + x) : -1;
            return cells.containsKey(number) ? number : null;
        }

        int mirror(int number) {
            return number / width * width + width - 1 - number % width;
        }

        List<Integer> neighbours(int number) {
            List<Integer> found = new ArrayList<>();
            int[][] steps = {{1, 0}, {0, 1}, {-1, 0}, {0, -1}};
            for (int[] step : steps) {
                Integer neighbour = number(number % width + step[0], number / width + step[1]);
                if (neighbour != null) {
                    found.add(neighbour);
                }
            }
            return found;
        }

        int weight(int number) {
            Cell cell = cells.get(number);
            int ofColour = cell.colour == 0 ? 0 : weights.getOrDefault(cell.colour, 2);
            return cloth + ofColour + (cell.hasSpar ? wood : 0);
        }

        int half(int sign) {
            int sum = 0;
            for (int number : cells.keySet()) {
                if (Integer.signum(number % width - width / 2) == sign) {
                    sum += weight(number);
                }
            }
            return sum;
        }

        int mix(int a, int b) {
            return a == b ? a : mixes.getOrDefault(Set.of(a, b), Math.max(a, b));
        }

        int bleeds(int number) {
            Cell cell = cells.get(number);
            if (cell.hasSpar) {
                return -2;
            }
            if (cell.wetness == 0 && cell.colour != 0) {
                return -3;
            }
            List<Integer> able = new ArrayList<>();
            for (int neighbour : neighbours(number)) {
                Cell other = cells.get(neighbour);
                if (!other.hasSpar && other.wetness - cell.wetness >= 2) {
                    able.add(neighbour);
                }
            }
            able.sort(Comparator.comparingInt((Integer n) -> -cells.get(n).wetness)
                    .thenComparingInt(n -> -cells.get(n).colour).thenComparingInt(n -> n));
            return able.isEmpty() ? -1 : able.get(0);
        }

        int tick() {
            Data before = copy();
            int bled = 0;
            for (int number : cells.keySet()) {
                int source = before.bleeds(number);
                if (source >= 0) {
                    bled++;
                    Cell own = before.cells.get(number);
                    Cell other = before.cells.get(source);
                    Cell cell = cells.get(number);
                    cell.colour = own.colour == 0 ? other.colour : mix(own.colour, other.colour);
                    cell.wetness = (own.wetness + other.wetness) / 2;
                }
            }
            for (Cell cell : cells.values()) {
                cell.wetness = Math.max(0, cell.wetness - 1);
            }
            time++;
            return bled;
        }

        Set<Integer> region(int number) {
            Set<Integer> region = new HashSet<>();
            Deque<Integer> open = new ArrayDeque<>();
            open.push(number);
            while (!open.isEmpty()) {
                int next = open.pop();
                if (cells.get(next).colour == cells.get(number).colour && region.add(next)) {
                    open.addAll(neighbours(next));
                }
            }
            return region;
        }

        long countIf(java.util.function.Predicate<Cell> test) {
            return cells.values().stream().filter(test).count();
        }

        int unlike() {
            int unlike = 0;
            for (int number : cells.keySet()) {
                unlike += cells.get(number).colour != cells.get(mirror(number)).colour ? 1 : 0;
            }
            return unlike / 2;
        }
    }

    private Data now = new Data();
    private final Deque<Data> past = new ArrayDeque<>();
    private final StringBuilder buffer = new StringBuilder();
    private int errorOffset = -1;

    PlainKite() {
        now.makeCells(List.of(2, 2, 2, 2, 2));
    }

    private void change() {
        past.addLast(now.copy());
        if (past.size() > 8) {
            past.removeFirst();
        }
    }

    private int cellAt(int x, int y) {
        Integer number = now.number(x, y);
        if (number == null) {
            throw new IndexOutOfBoundsException();
        }
        return number;
    }

    private static void limit(int number, int least, int greatest) {
        if (number < least || number > greatest) {
            throw new IllegalArgumentException();
        }
    }

    int append(int... words) {
        if (buffer.length() + 20 > 600) {
            return -1;
        }
        for (int word : words) {
            for (int i = 3; i >= 0; i--) {
                buffer.append((char) ((word >>> (8 * i)) & 0xff));
            }
        }
        return buffer.length();
    }

    int load(int length) {
        limit(length, 0, buffer.length());
        PlainSetup setup = new PlainSetup(buffer.substring(0, length));
        buffer.setLength(0);
        setup.read();
        errorOffset = setup.errorOffset;
        if (setup.error != 0) {
            return setup.error;
        }
        change();
        Data data = new Data();
        data.width = setup.width;
        data.height = setup.height;
        data.cloth = setup.cloth;
        data.wood = setup.wood;
        data.weights = setup.weights;
        data.mixes = setup.mixes;
        data.patterns = setup.patterns;
        data.makeCells(setup.reaches);
        for (int[] spar : setup.spars) {
            for (int i = 0; i < spar[3]; i++) {
                Integer number = data.number(spar[1] + (spar[0] == 0 ? i : 0), spar[2] + (spar[0] == 0 ? 0 : i));
                if (number != null) {
                    data.cells.get(number).hasSpar = true;
                }
            }
        }
        now = data;
        return now.cells.size();
    }

    int errorOffset() {
        return errorOffset;
    }

    long state(int what) {
        limit(what, 0, 12);
        long[] all = {now.width, now.height, now.time, now.cells.size(), now.countIf(c -> c.hasSpar),
            now.countIf(c -> c.colour == 0), now.countIf(c -> c.wetness > 0), now.half(-1), now.half(1),
            now.half(1) - now.half(-1), now.half(-1) + now.half(0) + now.half(1), now.patterns.size(),
            now.cells.values().stream().mapToInt(c -> c.wetness).max().getAsInt()};
        return all[what];
    }

    int cell(int x, int y, int what) {
        int number = cellAt(x, y);
        limit(what, 0, 4);
        Cell cell = now.cells.get(number);
        int[] all = {cell.colour, cell.wetness, cell.hasSpar ? 1 : 0, now.weight(number), now.mirror(number)};
        return all[what];
    }

    int mix(int a, int b) {
        limit(a, 1, 6);
        limit(b, 1, 6);
        return now.mix(a, b);
    }

    long count(int colour) {
        limit(colour, 0, 6);
        return now.countIf(c -> c.colour == colour);
    }

    int unlike() {
        return now.unlike();
    }

    int region(int x, int y) {
        return now.region(cellAt(x, y)).size();
    }

    int regions(int colour) {
        limit(colour, 0, 6);
        Set<Set<Integer>> regions = new HashSet<>();
        for (int number : now.cells.keySet()) {
            if (now.cells.get(number).colour == colour) {
                regions.add(now.region(number));
            }
        }
        return regions.size();
    }

    int bleeds(int x, int y) {
        return now.bleeds(cellAt(x, y));
    }

    int driesIn() {
        Data then = now.copy();
        int ticks = 0;
        while (then.countIf(c -> c.wetness > 0) > 0) {
            then.tick();
            ticks++;
        }
        return ticks;
    }

    long foretold(int ticks, int what) {
        limit(ticks, 1, 40);
        limit(what, 0, 4);
        Data then = now.copy();
        int bled = 0;
        for (int i = 0; i < ticks; i++) {
            bled += then.tick();
        }
        long[] all = {then.half(1) - then.half(-1), then.countIf(c -> c.colour == 0), then.unlike(),
            then.countIf(c -> c.wetness > 0), bled};
        return all[what];
    }

    int evens(int colour) {
        limit(colour, 0, 6);
        int least = Math.abs(now.half(1) - now.half(-1));
        int best = -1;
        for (int number : now.cells.keySet()) {
            Data then = now.copy();
            then.cells.get(number).colour = colour;
            int balance = Math.abs(then.half(1) - then.half(-1));
            if (balance < least) {
                least = balance;
                best = number;
            }
        }
        return best;
    }

    private List<String> patternAt(int pattern) {
        if (pattern < 0 || pattern >= now.patterns.size()) {
            throw new IndexOutOfBoundsException();
        }
        return now.patterns.get(pattern);
    }

    int pattern(int pattern, int what) {
        List<String> lines = patternAt(pattern);
        limit(what, 0, 2);
        int[] all = {lines.get(0).length(), lines.size(), String.join("", lines).replace("0", "").length()};
        return all[what];
    }

    float covered() {
        return (float) now.countIf(c -> c.colour != 0) / (float) now.cells.size();
    }

    int pass(int ticks) {
        limit(ticks, 1, 20);
        change();
        int bled = 0;
        for (int i = 0; i < ticks; i++) {
            bled += now.tick();
        }
        return bled;
    }

    private void put(int number, int colour, int wetness) {
        now.cells.get(number).colour = colour;
        now.cells.get(number).wetness = wetness;
    }

    int paint(int x, int y, int colour, int wetness, boolean isMirrored) {
        int number = cellAt(x, y);
        limit(colour, 1, 6);
        limit(wetness, 1, 9);
        change();
        put(number, colour, wetness);
        if (isMirrored) {
            put(now.mirror(number), colour, wetness);
        }
        return now.half(1) - now.half(-1);
    }

    int stroke(int x, int y, int way, int length, int colour) {
        cellAt(x, y);
        limit(way, 0, 3);
        limit(length, 1, 15);
        limit(colour, 1, 6);
        change();
        int dx = way == 2 ? -1 : way == 3 ? 1 : 0;
        int dy = way == 0 ? -1 : way == 1 ? 1 : 0;
        for (int step = 0; step < length; step++) {
            Integer number = now.number(x + step * dx, y + step * dy);
            if (number == null || now.cells.get(number).hasSpar) {
                return step;
            }
            put(number, colour, 6);
            put(now.mirror(number), colour, 6);
        }
        return length;
    }

    int stamp(int pattern, int x, int y, boolean isMirrored) {
        List<String> lines = patternAt(pattern);
        cellAt(x, y);
        change();
        for (int line = 0; line < lines.size(); line++) {
            for (int at = 0; at < lines.get(line).length(); at++) {
                int colour = lines.get(line).charAt(at) - '0';
                Integer number = now.number(x + at, y + line);
                if (colour != 0 && number != null) {
                    put(number, colour, 4);
                    if (isMirrored) {
                        put(now.mirror(number), colour, 4);
                    }
                }
            }
        }
        int other = 0;
        for (int number : now.cells.keySet()) {
            other += now.cells.get(number).colour != past.peekLast().cells.get(number).colour ? 1 : 0;
        }
        return other;
    }

    int spar(int x, int y, boolean isDown, int length) {
        cellAt(x, y);
        limit(length, 1, 15);
        change();
        int laid = 0;
        for (int step = 0; step < length; step++) {
            Integer number = now.number(isDown ? x : x + step, isDown ? y + step : y);
            if (number == null) {
                break;
            }
            laid += now.cells.get(number).hasSpar ? 0 : 1;
            now.cells.get(number).hasSpar = true;
        }
        return laid;
    }

    int strip(int x, int y) {
        int number = cellAt(x, y);
        if (!now.cells.get(number).hasSpar) {
            throw new IllegalStateException();
        }
        change();
        now.cells.get(number).hasSpar = false;
        return now.half(1) - now.half(-1);
    }

    int wash(int x, int y) {
        int number = cellAt(x, y);
        if (now.cells.get(number).colour == 0) {
            throw new IllegalStateException();
        }
        change();
        Set<Integer> region = now.region(number);
        for (int washed : region) {
            put(washed, 0, 0);
        }
        return region.size();
    }

    int undo() {
        if (past.isEmpty()) {
            return -1;
        }
        now = past.removeLast();
        return past.size();
    }

    long checksum() {
        long sum = 0;
        for (int what = 0; what <= 12; what++) {
            sum = 31 * sum + state(what);
        }
        for (int number : now.cells.keySet()) {
            for (int what = 0; what <= 3; what++) {
                sum = 31 * sum + cell(number % now.width, number / now.width, what);
            }
        }
        return sum;
    }
}
