import java.util.Arrays;

/** A kite painter's sail, as ../shared/DOC.md tells it. */
public final class KitePainter {
    public static final int SYNTAX_ERROR = -2;
    public static final int OUT_OF_RANGE = -3;
    public static final int REPEATED = -4;
    public static final int TOO_MANY = -5;

    private static final int TEXT_LIMIT = 600;
    private static final int BYTES_OF_APPEND = 20;
    private static final int WIDTH_LIMIT = 15;
    private static final int HEIGHT_LIMIT = 12;
    private static final int CELL_LIMIT = WIDTH_LIMIT * HEIGHT_LIMIT;
    private static final int LAST_COLOUR = 6;
    private static final int WEIGHT_LIMIT = 99;
    private static final int WETNESS_LIMIT = 9;
    private static final int LENGTH_LIMIT = 15;
    private static final int PATTERN_LIMIT = 3;
    private static final int LINE_LIMIT = 6;
    private static final int DIGIT_LIMIT = 7;
    private static final int PASS_LIMIT = 20;
    private static final int FORETOLD_LIMIT = 40;
    private static final int UNDO_LIMIT = 8;

    private static final int BARE = 0;
    private static final int STROKE_WETNESS = 6;
    private static final int STAMP_WETNESS = 4;
    private static final int NOTHING_BLEEDS = -1;
    private static final int HAS_SPAR = -2;
    private static final int IS_DRIED = -3;
    private static final int NO_ERROR = 0;

    /** The steps to the neighbours of a cell, so that their numbers rise. */
    private static final int[] NEIGHBOUR_X = {0, -1, 1, 0};
    private static final int[] NEIGHBOUR_Y = {-1, 0, 0, 1};

    /** The steps of a stroke: upward, downward, to the left, to the right. */
    private static final int[] WAY_X = {0, 0, -1, 1};
    private static final int[] WAY_Y = {-1, 1, 0, 0};

    private final Sail sail;
    /** A sail for drafts: what a setup text tells, what is foretold, what was there ahead of a stamp. */
    private final Sail spare;
    private final History history;
    private final Bleeding bleeding;
    private final RegionFinder finder;
    private final SetupReader reader;
    private int latestErrorAt;

    public KitePainter() {
        sail = new Sail();
        spare = new Sail();
        history = new History();
        bleeding = new Bleeding();
        finder = new RegionFinder();
        reader = new SetupReader();
        latestErrorAt = -1;
    }

    public int append(int w0, int w1, int w2, int w3, int w4) {
        if (reader.filled > TEXT_LIMIT - BYTES_OF_APPEND) {
            return -1;
        }
        reader.putFourBytes(w0);
        reader.putFourBytes(w1);
        reader.putFourBytes(w2);
        reader.putFourBytes(w3);
        reader.putFourBytes(w4);
        return reader.filled;
    }

    public int load(int length) throws IllegalArgumentException {
        requireRange(length, 0, reader.filled);
        int error = reader.readSetup(length, spare);
        reader.filled = 0;
        if (error != NO_ERROR) {
            latestErrorAt = reader.errorAt;
            return error;
        }
        latestErrorAt = -1;
        history.keep(sail);
        sail.copyFrom(spare);
        return sail.allCells();
    }

    public int errorOffset() {
        return latestErrorAt;
    }

    public int state(int what) throws IllegalArgumentException {
        switch (what) {
            case 0:
                return sail.width;
            case 1:
                return sail.height;
            case 2:
                return sail.time;
            case 3:
                return sail.allCells();
            case 4:
                return sail.cellsWithSpars();
            case 5:
                return sail.cellsOfColour(BARE);
            case 6:
                return sail.wetCells();
            case 7:
                return sail.leftWeight();
            case 8:
                return sail.rightWeight();
            case 9:
                return sail.balance();
            case 10:
                return sail.wholeWeight();
            case 11:
                return sail.patterns;
            case 12:
                return sail.greatestWetness();
            default:
                throw new IllegalArgumentException("no such number of the state");
        }
    }

    public int cell(int x, int y, int what) throws IndexOutOfBoundsException, IllegalArgumentException {
        requireCell(x, y);
        int number = sail.numberOf(x, y);
        switch (what) {
            case 0:
                return sail.colours[number];
            case 1:
                return sail.wetness[number];
            case 2:
                return sail.spars[number];
            case 3:
                return sail.weightAt(number);
            case 4:
                return sail.numberOf(sail.mirrorX(x), y);
            default:
                throw new IllegalArgumentException("no such number of a cell");
        }
    }

    public int mix(int a, int b) throws IllegalArgumentException {
        requireRange(a, 1, LAST_COLOUR);
        requireRange(b, 1, LAST_COLOUR);
        return sail.mixOf(a, b);
    }

    public int count(int colour) throws IllegalArgumentException {
        requireRange(colour, BARE, LAST_COLOUR);
        return sail.cellsOfColour(colour);
    }

    public int unlike() {
        return sail.unlikePairs();
    }

    public int region(int x, int y) throws IndexOutOfBoundsException {
        requireCell(x, y);
        return finder.fillFrom(sail, x, y);
    }

    public int regions(int colour) throws IllegalArgumentException {
        requireRange(colour, BARE, LAST_COLOUR);
        return finder.ofColour(sail, colour);
    }

    public int bleeds(int x, int y) throws IndexOutOfBoundsException {
        requireCell(x, y);
        return sail.sourceOf(x, y);
    }

    /** Nothing bleeds into the wettest cell, so that the greatest wetness is less by exactly 1 after each tick. */
    public int driesIn() {
        return sail.greatestWetness();
    }

    public int foretold(int ticks, int what) throws IllegalArgumentException {
        requireRange(ticks, 1, FORETOLD_LIMIT);
        requireRange(what, 0, 4);
        spare.copyFrom(sail);
        int bled = bleeding.letPass(spare, ticks);
        switch (what) {
            case 0:
                return spare.balance();
            case 1:
                return spare.cellsOfColour(BARE);
            case 2:
                return spare.unlikePairs();
            case 3:
                return spare.wetCells();
            default:
                return bled;
        }
    }

    public int evens(int colour) throws IllegalArgumentException {
        requireRange(colour, BARE, LAST_COLOUR);
        int balance = sail.balance();
        int least = Math.abs(balance);
        int best = -1;
        for (int y = 0; y < sail.height; y++) {
            for (int x = sail.firstX(y); x <= sail.lastX(y); x++) {
                int number = sail.numberOf(x, y);
                int heavier = sail.colourWeights[colour] - sail.colourWeights[sail.colours[number]];
                int unevenness = Math.abs(balance + sail.sideOf(x) * heavier);
                if (unevenness < least) {
                    least = unevenness;
                    best = number;
                }
            }
        }
        return best;
    }

    public int pattern(int pattern, int what) throws IndexOutOfBoundsException, IllegalArgumentException {
        requirePattern(pattern);
        switch (what) {
            case 0:
                return sail.patternDigits[pattern];
            case 1:
                return sail.patternLines[pattern];
            case 2:
                return sail.paintingDigits(pattern);
            default:
                throw new IllegalArgumentException("no such number of a pattern");
        }
    }

    public float covered() {
        int all = sail.allCells();
        if (all <= 0) {
            return 0;
        }
        return (float) (all - sail.cellsOfColour(BARE)) / (float) all;
    }

    public int pass(int ticks) throws IllegalArgumentException {
        requireRange(ticks, 1, PASS_LIMIT);
        history.keep(sail);
        return bleeding.letPass(sail, ticks);
    }

    public int paint(int x, int y, int colour, int wetness, boolean isMirrored)
            throws IndexOutOfBoundsException, IllegalArgumentException {
        requireCell(x, y);
        requireRange(colour, 1, LAST_COLOUR);
        requireRange(wetness, 1, WETNESS_LIMIT);
        history.keep(sail);
        sail.putColour(x, y, colour, wetness, isMirrored);
        return sail.balance();
    }

    public int stroke(int x, int y, int way, int length, int colour)
            throws IndexOutOfBoundsException, IllegalArgumentException {
        requireCell(x, y);
        requireRange(way, 0, WAY_X.length - 1);
        requireRange(length, 1, LENGTH_LIMIT);
        requireRange(colour, 1, LAST_COLOUR);
        history.keep(sail);
        int steps = 0;
        int atX = x;
        int atY = y;
        while (steps < length && sail.holds(atX, atY) && sail.spars[sail.numberOf(atX, atY)] == 0) {
            sail.putColour(atX, atY, colour, STROKE_WETNESS, true);
            steps++;
            atX += WAY_X[way];
            atY += WAY_Y[way];
        }
        return steps;
    }

    public int stamp(int pattern, int x, int y, boolean isMirrored) throws IndexOutOfBoundsException {
        requirePattern(pattern);
        requireCell(x, y);
        history.keep(sail);
        spare.copyFrom(sail);
        for (int line = 0; line < sail.patternLines[pattern]; line++) {
            for (int digit = 0; digit < sail.patternDigits[pattern]; digit++) {
                int colour = sail.patternColour(pattern, line, digit);
                if (colour != BARE) {
                    sail.putColour(x + digit, y + line, colour, STAMP_WETNESS, isMirrored);
                }
            }
        }
        return sail.cellsOfOtherColour(spare);
    }

    public int spar(int x, int y, boolean isDown, int length)
            throws IndexOutOfBoundsException, IllegalArgumentException {
        requireCell(x, y);
        requireRange(length, 1, LENGTH_LIMIT);
        history.keep(sail);
        int before = sail.cellsWithSpars();
        int atX = x;
        int atY = y;
        for (int laid = 0; laid < length && sail.holds(atX, atY); laid++) {
            sail.spars[sail.numberOf(atX, atY)] = 1;
            atX += isDown ? 0 : 1;
            atY += isDown ? 1 : 0;
        }
        return sail.cellsWithSpars() - before;
    }

    public int strip(int x, int y) throws IndexOutOfBoundsException, IllegalStateException {
        requireCell(x, y);
        int number = sail.numberOf(x, y);
        if (sail.spars[number] == 0) {
            throw new IllegalStateException("the cell has no spar");
        }
        history.keep(sail);
        sail.spars[number] = 0;
        return sail.balance();
    }

    public int wash(int x, int y) throws IndexOutOfBoundsException, IllegalStateException {
        requireCell(x, y);
        if (sail.colours[sail.numberOf(x, y)] == BARE) {
            throw new IllegalStateException("the cell is bare");
        }
        history.keep(sail);
        int washed = finder.fillFrom(sail, x, y);
        finder.makeFoundBare(sail);
        return washed;
    }

    public int undo() {
        if (history.kept == 0) {
            return -1;
        }
        history.takeBack(sail);
        return history.kept;
    }

    public long checksum() {
        long sum = 0;
        for (int what = 0; what <= 12; what++) {
            sum = 31 * sum + state(what);
        }
        for (int y = 0; y < sail.height; y++) {
            for (int x = sail.firstX(y); x <= sail.lastX(y); x++) {
                for (int what = 0; what <= 3; what++) {
                    sum = 31 * sum + cell(x, y, what);
                }
            }
        }
        return sum;
    }

    private void requireCell(int x, int y) {
        if (!sail.holds(x, y)) {
            throw new IndexOutOfBoundsException("no cell of the sail");
        }
    }

    private void requirePattern(int pattern) {
        if (pattern < 0 || pattern >= sail.patterns) {
            throw new IndexOutOfBoundsException("no such pattern");
        }
    }

    private static void requireRange(int number, int least, int greatest) {
        if (number < least || number > greatest) {
            throw new IllegalArgumentException("a number out of range");
        }
    }

    /** All that a change can change and undo gives back. Cells that are not of the sail stay bare, dry and without spars. */
    private static final class Sail {
        int width;
        int height;
        int time;
        int cloth;
        int wood;
        int patterns;
        final int[] reaches = new int[HEIGHT_LIMIT];
        final int[] colourWeights = new int[LAST_COLOUR + 1];
        /** The mix of a and b at a * (LAST_COLOUR + 1) + b and the other way round; 0 if it was not told. */
        final int[] mixes = new int[(LAST_COLOUR + 1) * (LAST_COLOUR + 1)];
        final int[] patternLines = new int[PATTERN_LIMIT];
        final int[] patternDigits = new int[PATTERN_LIMIT];
        final int[] patternColours = new int[PATTERN_LIMIT * LINE_LIMIT * DIGIT_LIMIT];
        final int[] colours = new int[CELL_LIMIT];
        final int[] wetness = new int[CELL_LIMIT];
        /** 1 where a cell has a spar, otherwise 0. */
        final int[] spars = new int[CELL_LIMIT];

        Sail() {
            beginAnew(5, 5);
        }

        /** A bare sail as without statements; the width is 1 to WIDTH_LIMIT, the height 1 to HEIGHT_LIMIT. */
        void beginAnew(int newWidth, int newHeight) {
            width = newWidth;
            height = newHeight;
            time = 0;
            cloth = 1;
            wood = 5;
            patterns = 0;
            Arrays.fill(reaches, newWidth / 2);
            Arrays.fill(colourWeights, 2);
            colourWeights[BARE] = 0;
            Arrays.fill(mixes, 0);
            Arrays.fill(patternLines, 0);
            Arrays.fill(patternDigits, 0);
            Arrays.fill(patternColours, BARE);
            Arrays.fill(colours, BARE);
            Arrays.fill(wetness, 0);
            Arrays.fill(spars, 0);
        }

        void copyFrom(Sail other) {
            width = other.width;
            height = other.height;
            time = other.time;
            cloth = other.cloth;
            wood = other.wood;
            patterns = other.patterns;
            System.arraycopy(other.reaches, 0, reaches, 0, reaches.length);
            System.arraycopy(other.colourWeights, 0, colourWeights, 0, colourWeights.length);
            System.arraycopy(other.mixes, 0, mixes, 0, mixes.length);
            System.arraycopy(other.patternLines, 0, patternLines, 0, patternLines.length);
            System.arraycopy(other.patternDigits, 0, patternDigits, 0, patternDigits.length);
            System.arraycopy(other.patternColours, 0, patternColours, 0, patternColours.length);
            System.arraycopy(other.colours, 0, colours, 0, colours.length);
            System.arraycopy(other.wetness, 0, wetness, 0, wetness.length);
            System.arraycopy(other.spars, 0, spars, 0, spars.length);
        }

        int middle() {
            return width / 2;
        }

        int firstX(int y) {
            return middle() - reaches[y];
        }

        int lastX(int y) {
            return middle() + reaches[y];
        }

        boolean holds(int x, int y) {
            return y >= 0 && y < height && x >= firstX(y) && x <= lastX(y);
        }

        int numberOf(int x, int y) {
            return y * width + x;
        }

        int mirrorX(int x) {
            return width - 1 - x;
        }

        /** -1 in the left half, 1 in the right one, 0 in the middle column. */
        int sideOf(int x) {
            return Integer.compare(x, middle());
        }

        int mixOf(int a, int b) {
            if (a == b) {
                return a;
            }
            int told = toldMix(a, b);
            return told != 0 ? told : Math.max(a, b);
        }

        int toldMix(int a, int b) {
            return mixes[a * (LAST_COLOUR + 1) + b];
        }

        void tellMix(int a, int b, int mixed) {
            mixes[a * (LAST_COLOUR + 1) + b] = mixed;
            mixes[b * (LAST_COLOUR + 1) + a] = mixed;
        }

        int allCells() {
            int cells = 0;
            for (int y = 0; y < height; y++) {
                cells += 2 * reaches[y] + 1;
            }
            return cells;
        }

        int cellsWithSpars() {
            int cells = 0;
            for (int spar : spars) {
                cells += spar;
            }
            return cells;
        }

        int cellsOfColour(int colour) {
            int cells = 0;
            for (int y = 0; y < height; y++) {
                for (int x = firstX(y); x <= lastX(y); x++) {
                    cells += colours[numberOf(x, y)] == colour ? 1 : 0;
                }
            }
            return cells;
        }

        int cellsOfOtherColour(Sail other) {
            int cells = 0;
            for (int number = 0; number < CELL_LIMIT; number++) {
                cells += colours[number] != other.colours[number] ? 1 : 0;
            }
            return cells;
        }

        int wetCells() {
            int cells = 0;
            for (int wet : wetness) {
                cells += wet > 0 ? 1 : 0;
            }
            return cells;
        }

        int greatestWetness() {
            int greatest = 0;
            for (int wet : wetness) {
                greatest = Math.max(greatest, wet);
            }
            return greatest;
        }

        int unlikePairs() {
            int pairs = 0;
            for (int y = 0; y < height; y++) {
                for (int x = firstX(y); x < middle(); x++) {
                    pairs += colours[numberOf(x, y)] != colours[numberOf(mirrorX(x), y)] ? 1 : 0;
                }
            }
            return pairs;
        }

        int weightAt(int number) {
            return cloth + colourWeights[colours[number]] + spars[number] * wood;
        }

        int weightOfSide(int side) {
            int weight = 0;
            for (int y = 0; y < height; y++) {
                for (int x = firstX(y); x <= lastX(y); x++) {
                    weight += sideOf(x) == side ? weightAt(numberOf(x, y)) : 0;
                }
            }
            return weight;
        }

        int leftWeight() {
            return weightOfSide(-1);
        }

        int rightWeight() {
            return weightOfSide(1);
        }

        int wholeWeight() {
            return leftWeight() + weightOfSide(0) + rightWeight();
        }

        int balance() {
            return rightWeight() - leftWeight();
        }

        int patternColour(int pattern, int line, int digit) {
            return patternColours[(pattern * LINE_LIMIT + line) * DIGIT_LIMIT + digit];
        }

        void setPatternColour(int pattern, int line, int digit, int colour) {
            patternColours[(pattern * LINE_LIMIT + line) * DIGIT_LIMIT + digit] = colour;
        }

        int paintingDigits(int pattern) {
            int painting = 0;
            for (int line = 0; line < patternLines[pattern]; line++) {
                for (int digit = 0; digit < patternDigits[pattern]; digit++) {
                    painting += patternColour(pattern, line, digit) != BARE ? 1 : 0;
                }
            }
            return painting;
        }

        /** Paints a cell, and its mirror if this is told; does nothing where there is no sail. */
        void putColour(int x, int y, int colour, int wet, boolean isMirrored) {
            if (!holds(x, y)) {
                return;
            }
            setCell(numberOf(x, y), colour, wet);
            if (isMirrored) {
                setCell(numberOf(mirrorX(x), y), colour, wet);
            }
        }

        void setCell(int number, int colour, int wet) {
            colours[number] = colour;
            wetness[number] = wet;
        }

        /** The number of the neighbour that bleeds into a cell of the sail, or why there is none. */
        int sourceOf(int x, int y) {
            int number = numberOf(x, y);
            if (spars[number] == 1) {
                return HAS_SPAR;
            }
            if (wetness[number] == 0 && colours[number] != BARE) {
                return IS_DRIED;
            }
            int source = NOTHING_BLEEDS;
            for (int i = 0; i < NEIGHBOUR_X.length; i++) {
                int neighbourX = x + NEIGHBOUR_X[i];
                int neighbourY = y + NEIGHBOUR_Y[i];
                if (!holds(neighbourX, neighbourY)) {
                    continue;
                }
                int neighbour = numberOf(neighbourX, neighbourY);
                boolean canBleed = spars[neighbour] == 0 && wetness[neighbour] >= wetness[number] + 2;
                if (canBleed && (source < 0 || isAhead(neighbour, source))) {
                    source = neighbour;
                }
            }
            return source;
        }

        /** Whether one cell would bleed rather than another one; the one that was met first stays if they are alike. */
        boolean isAhead(int number, int other) {
            if (wetness[number] != wetness[other]) {
                return wetness[number] > wetness[other];
            }
            return colours[number] > colours[other];
        }
    }

    /** The sails as they were ahead of the latest changes, the oldest one written over by the newest one. */
    private static final class History {
        final Sail[] sails = new Sail[UNDO_LIMIT];
        int newest;
        int kept;

        History() {
            for (int i = 0; i < UNDO_LIMIT; i++) {
                sails[i] = new Sail();
            }
            newest = 0;
            kept = 0;
        }

        void keep(Sail sail) {
            newest = (newest + 1) % UNDO_LIMIT;
            kept = Math.min(kept + 1, UNDO_LIMIT);
            sails[newest].copyFrom(sail);
        }

        void takeBack(Sail sail) {
            sail.copyFrom(sails[newest]);
            newest = (newest + UNDO_LIMIT - 1) % UNDO_LIMIT;
            kept--;
        }
    }

    /** Lets ticks pass, with rows for what the cells become while what was there is still needed. */
    private static final class Bleeding {
        final int[] nextColours = new int[CELL_LIMIT];
        final int[] nextWetness = new int[CELL_LIMIT];

        /** How often something bled into a cell; a dry sail stays as it is, but for the time. */
        int letPass(Sail sail, int ticks) {
            int bled = 0;
            for (int tick = 0; tick < ticks && sail.greatestWetness() > 0; tick++) {
                bled += bleedOnce(sail);
                dryOnce(sail);
            }
            sail.time += ticks;
            return bled;
        }

        private int bleedOnce(Sail sail) {
            int bled = 0;
            System.arraycopy(sail.colours, 0, nextColours, 0, CELL_LIMIT);
            System.arraycopy(sail.wetness, 0, nextWetness, 0, CELL_LIMIT);
            for (int y = 0; y < sail.height; y++) {
                for (int x = sail.firstX(y); x <= sail.lastX(y); x++) {
                    int source = sail.sourceOf(x, y);
                    if (source >= 0) {
                        bleedInto(sail, sail.numberOf(x, y), source);
                        bled++;
                    }
                }
            }
            System.arraycopy(nextColours, 0, sail.colours, 0, CELL_LIMIT);
            System.arraycopy(nextWetness, 0, sail.wetness, 0, CELL_LIMIT);
            return bled;
        }

        private void bleedInto(Sail sail, int number, int source) {
            int own = sail.colours[number];
            int other = sail.colours[source];
            nextColours[number] = own == BARE ? other : sail.mixOf(own, other);
            nextWetness[number] = (sail.wetness[number] + sail.wetness[source]) / 2;
        }

        private static void dryOnce(Sail sail) {
            for (int number = 0; number < CELL_LIMIT; number++) {
                if (sail.wetness[number] > 0) {
                    sail.wetness[number]--;
                }
            }
        }
    }

    /** Finds regions; the cells of the one that was filled last stand in the rows foundX and foundY. */
    private static final class RegionFinder {
        /** 1 where a cell was visited, otherwise 0. */
        final int[] seen = new int[CELL_LIMIT];
        final int[] foundX = new int[CELL_LIMIT];
        final int[] foundY = new int[CELL_LIMIT];
        int found;

        int ofColour(Sail sail, int colour) {
            Arrays.fill(seen, 0);
            int number = 0;
            for (int y = 0; y < sail.height; y++) {
                for (int x = sail.firstX(y); x <= sail.lastX(y); x++) {
                    int at = sail.numberOf(x, y);
                    if (seen[at] == 0 && sail.colours[at] == colour) {
                        spread(sail, x, y);
                        number++;
                    }
                }
            }
            return number;
        }

        int fillFrom(Sail sail, int x, int y) {
            Arrays.fill(seen, 0);
            spread(sail, x, y);
            return found;
        }

        void makeFoundBare(Sail sail) {
            for (int i = 0; i < found; i++) {
                sail.setCell(sail.numberOf(foundX[i], foundY[i]), BARE, 0);
            }
        }

        /** A cell is found once at most, so that the rows are long enough. */
        private void spread(Sail sail, int x, int y) {
            found = 0;
            int colour = sail.colours[sail.numberOf(x, y)];
            visit(sail, x, y, colour);
            for (int next = 0; next < found && next < CELL_LIMIT; next++) {
                for (int i = 0; i < NEIGHBOUR_X.length; i++) {
                    visit(sail, foundX[next] + NEIGHBOUR_X[i], foundY[next] + NEIGHBOUR_Y[i], colour);
                }
            }
        }

        private void visit(Sail sail, int x, int y, int colour) {
            if (!sail.holds(x, y)) {
                return;
            }
            int number = sail.numberOf(x, y);
            if (seen[number] == 1 || sail.colours[number] != colour || found >= CELL_LIMIT) {
                return;
            }
            seen[number] = 1;
            foundX[found] = x;
            foundY[found] = y;
            found++;
        }
    }

    /** Holds the input buffer, and reads a setup text in it token by token up to the first error. */
    private static final class SetupReader {
        static final int END = 0;
        static final int WORD = 1;
        static final int DIGITS = 2;
        static final int SEMICOLON = 3;
        static final int STRAY = 4;

        final byte[] text = new byte[TEXT_LIMIT];
        int filled;
        /** How many bytes of the buffer are the setup text. */
        int length;
        /** The token that is looked at: its kind, its first byte, and the one behind its last byte. */
        int kind;
        int start;
        int end;
        int error;
        int errorAt;
        /** Where the number began that was read last. */
        int numberAt;
        boolean hasReach;
        boolean hasCloth;
        boolean hasWood;
        boolean hasSpar;

        void putFourBytes(int word) {
            for (int shift = 24; shift >= 0 && filled < TEXT_LIMIT; shift -= 8) {
                text[filled] = (byte) (word >> shift);
                filled++;
            }
        }

        /** Reads the first bytes of the buffer into a sail; answers the code of the first error, or NO_ERROR. */
        int readSetup(int bytes, Sail sail) {
            length = Math.min(bytes, filled);
            end = 0;
            error = NO_ERROR;
            errorAt = -1;
            hasReach = false;
            hasCloth = false;
            hasWood = false;
            hasSpar = false;
            goOn();
            readKite(sail);
            for (int statements = 0; statements < length && error == NO_ERROR && kind != END; statements++) {
                readStatement(sail);
                readSemicolon();
            }
            return error;
        }

        /** Goes on to the next token. */
        private void goOn() {
            start = end;
            while (start < length && text[start] == ' ') {
                start++;
            }
            end = start;
            if (start >= length) {
                kind = END;
            } else if (isDigit(start)) {
                kind = DIGITS;
                while (end < length && isDigit(end)) {
                    end++;
                }
            } else if (isLetter(start)) {
                kind = WORD;
                while (end < length && isLetter(end)) {
                    end++;
                }
            } else {
                kind = text[start] == ';' ? SEMICOLON : STRAY;
                end++;
            }
        }

        private boolean isDigit(int at) {
            return text[at] >= '0' && text[at] <= '9';
        }

        private boolean isLetter(int at) {
            return text[at] >= 'a' && text[at] <= 'z';
        }

        private int digitAt(int at) {
            return text[at] - '0';
        }

        private boolean isWord(String word) {
            if (kind != WORD || end - start != word.length()) {
                return false;
            }
            for (int i = 0; i < word.length(); i++) {
                if (text[start + i] != word.charAt(i)) {
                    return false;
                }
            }
            return true;
        }

        /** Keeps the first error; what is read behind it does not matter. */
        private void fail(int code, int at) {
            if (error == NO_ERROR) {
                error = code;
                errorAt = at;
            }
        }

        private void readWord(String word) {
            if (isWord(word)) {
                goOn();
            } else {
                fail(SYNTAX_ERROR, start);
            }
        }

        private void readSemicolon() {
            if (kind == SEMICOLON) {
                goOn();
            } else {
                fail(SYNTAX_ERROR, start);
            }
        }

        /** A number from least to greatest; least also after an error, so that it can be used as any other one. */
        private int readNumber(int least, int greatest) {
            if (kind != DIGITS) {
                fail(SYNTAX_ERROR, start);
                return least;
            }
            numberAt = start;
            int number = valueUpTo(greatest + 1);
            goOn();
            if (number < least || number > greatest) {
                fail(OUT_OF_RANGE, numberAt);
                return least;
            }
            return number;
        }

        /** The value of the run of digits, or the limit if the value is greater: a run can be longer than an int holds. */
        private int valueUpTo(int limit) {
            int value = 0;
            for (int at = start; at < end; at++) {
                value = Math.min(10 * value + digitAt(at), limit);
            }
            return value;
        }

        private void readKite(Sail sail) {
            readWord("kite");
            int width = readNumber(1, WIDTH_LIMIT);
            if (width % 2 == 0) {
                fail(OUT_OF_RANGE, numberAt);
            }
            int height = readNumber(1, HEIGHT_LIMIT);
            readSemicolon();
            sail.beginAnew(width, height);
        }

        private void readStatement(Sail sail) {
            if (isWord("reach")) {
                readReach(sail);
            } else if (isWord("cloth")) {
                refuseIf(hasCloth);
                hasCloth = true;
                goOn();
                sail.cloth = readNumber(0, WEIGHT_LIMIT);
            } else if (isWord("wood")) {
                refuseIf(hasWood);
                hasWood = true;
                goOn();
                sail.wood = readNumber(0, WEIGHT_LIMIT);
            } else if (isWord("colour")) {
                goOn();
                int colour = readNumber(1, LAST_COLOUR);
                sail.colourWeights[colour] = readNumber(0, WEIGHT_LIMIT);
            } else if (isWord("mix")) {
                readMix(sail);
            } else if (isWord("spar")) {
                readSpar(sail);
            } else if (isWord("pattern")) {
                readPattern(sail);
            } else {
                fail(SYNTAX_ERROR, start);
            }
        }

        /** A statement that may not stand here is an error at its word. */
        private void refuseIf(boolean isRefused) {
            if (isRefused) {
                fail(SYNTAX_ERROR, start);
            }
        }

        private void readReach(Sail sail) {
            refuseIf(hasReach || hasSpar);
            hasReach = true;
            goOn();
            for (int y = 0; y < sail.height; y++) {
                sail.reaches[y] = readNumber(0, sail.middle());
            }
        }

        private void readMix(Sail sail) {
            goOn();
            int a = readNumber(1, LAST_COLOUR);
            int b = readNumber(1, LAST_COLOUR);
            if (a == b) {
                fail(OUT_OF_RANGE, numberAt);
            } else if (sail.toldMix(a, b) != 0) {
                fail(REPEATED, numberAt);
            }
            sail.tellMix(a, b, readNumber(1, LAST_COLOUR));
        }

        private void readSpar(Sail sail) {
            hasSpar = true;
            goOn();
            boolean isDown = isWord("down");
            if (isDown) {
                goOn();
            } else {
                readWord("across");
            }
            int x = readNumber(0, sail.width - 1);
            int y = readNumber(0, sail.height - 1);
            int cells = readNumber(1, LENGTH_LIMIT);
            for (int i = 0; i < cells; i++) {
                int atX = isDown ? x : x + i;
                int atY = isDown ? y + i : y;
                if (sail.holds(atX, atY)) {
                    sail.spars[sail.numberOf(atX, atY)] = 1;
                }
            }
        }

        private void readPattern(Sail sail) {
            if (sail.patterns >= PATTERN_LIMIT) {
                fail(TOO_MANY, start);
                return;
            }
            int pattern = sail.patterns;
            sail.patterns++;
            goOn();
            if (kind != DIGITS) {
                fail(SYNTAX_ERROR, start);
            }
            for (int line = 0; line <= LINE_LIMIT && kind == DIGITS && error == NO_ERROR; line++) {
                checkLine(sail, pattern, line);
                if (error == NO_ERROR) {
                    takeLine(sail, pattern, line);
                }
                goOn();
            }
        }

        private void checkLine(Sail sail, int pattern, int line) {
            int digits = end - start;
            if (digits > DIGIT_LIMIT || line > 0 && digits != sail.patternDigits[pattern] || digitAt(start) > LAST_COLOUR) {
                fail(OUT_OF_RANGE, start);
            }
            if (line >= LINE_LIMIT) {
                fail(TOO_MANY, start);
            }
            for (int at = start; at < end; at++) {
                if (digitAt(at) > LAST_COLOUR) {
                    fail(OUT_OF_RANGE, at);
                }
            }
        }

        private void takeLine(Sail sail, int pattern, int line) {
            int digits = end - start;
            sail.patternDigits[pattern] = digits;
            sail.patternLines[pattern] = line + 1;
            for (int digit = 0; digit < digits; digit++) {
                sail.setPatternColour(pattern, line, digit, digitAt(start + digit));
            }
        }
    }
}
