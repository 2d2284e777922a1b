import java.util.NoSuchElementException;

/**
 * A builder of icon sets: parts with shapes on a master grid are shared by icons, icons are drawn
 * at several sizes with edges and strokes snapped to pixels, and their ink, optical weights and
 * topology are measured and compared.
 */
public final class IconSetBuilder {
    public static final int NONE = -1;
    public static final int SYNTAX_ERROR = -2;
    public static final int VALUE_ERROR = -3;
    public static final int TOO_MANY = -4;

    private static final int GRID = 48;
    private static final int MAX_SIZES = 5;
    private static final int MIN_PIXELS = 4;
    private static final int MAX_PIXELS = 32;
    private static final int MAX_EXTRA = 2;
    private static final int MAX_THICKNESS = 12;
    private static final int FULL_WEIGHT = 1000;
    private static final int MAX_SHIFT = 48;
    private static final int MAX_ROWS = 8;
    private static final int MAX_ITEMS = 6;
    private static final int MAX_LETTERS = 8;
    private static final int MAX_CHANGES = 8;
    private static final int MAX_TEXT = 900;
    private static final int WORD_BYTES = 4;
    private static final int APPENDED_BYTES = 20;

    private static final int BAR = 0;
    private static final int BOX = 1;
    private static final int LINE = 2;

    private static final int SHAPE_NUMBERS = 6;
    private static final int SHAPE_KIND = 0;
    private static final int SHAPE_A = 1;
    private static final int SHAPE_B = 2;
    private static final int SHAPE_C = 3;
    private static final int SHAPE_D = 4;
    private static final int SHAPE_E = 5;

    private static final int USE_NUMBERS = 3;
    private static final int USE_PART = 0;
    private static final int USE_RIGHT = 1;
    private static final int USE_DOWN = 2;

    private static final int[] EXTRAS_BY_PREFERENCE = {0, -1, 1, -2, 2};

    private final IconSet set;
    private final History history;
    private final SetReader reader;
    private final Drawing drawing;
    private final Drawing otherDrawing;
    private final Drawing written;
    private final Topology topology;
    private int foundError;

    /** Creates a set without sizes, parts and icons, and an empty text buffer. */
    public IconSetBuilder() {
        set = new IconSet();
        history = new History();
        reader = new SetReader();
        drawing = new Drawing();
        otherDrawing = new Drawing();
        written = new Drawing();
        topology = new Topology();
        foundError = NONE;
    }

    /** Appends 20 bytes to the text buffer and returns its new length. */
    public int append(int a, int b, int c, int d, int e) throws IllegalStateException {
        requireState(reader.text.length() + APPENDED_BYTES <= MAX_TEXT);
        reader.text.put(a);
        reader.text.put(b);
        reader.text.put(c);
        reader.text.put(d);
        reader.text.put(e);
        return reader.text.length();
    }

    /** Reads a set from the text buffer; returns the number of icons, or the error code. */
    public int load(int length) throws IllegalArgumentException {
        requireArgument(within(length, 0, reader.text.length()));
        boolean valid = reader.readSet(length);
        reader.text.clear();
        foundError = reader.errorPlace();
        if (!valid) {
            return reader.errorCode();
        }
        history.remember(set);
        set.copyFrom(reader.draft);
        return set.icons.rowCount();
    }

    /** Returns the position of the error that the latest load found, or NONE. */
    public int errorPosition() {
        return foundError;
    }

    /** Returns a number of the set. */
    public int count(int what) throws IllegalArgumentException {
        requireArgument(within(what, 0, 5));
        switch (what) {
            case 0:
                return set.sizes.sizeCount();
            case 1:
                return set.parts.rowCount();
            case 2:
                return set.icons.rowCount();
            case 3:
                return set.parts.allItems();
            case 4:
                return set.icons.allItems();
            default:
                return set.unusedParts();
        }
    }

    /** Adds a size with the extra 0 and returns its number. */
    public int addSize(int pixels) throws IllegalArgumentException, IllegalStateException {
        requireArgument(within(pixels, MIN_PIXELS, MAX_PIXELS));
        requireState(!set.sizes.isFull() && set.sizes.find(pixels) == NONE);
        history.remember(set);
        return set.sizes.insert(pixels);
    }

    /** Removes a size and returns the number of sizes that are left. */
    public int removeSize(int size) throws IndexOutOfBoundsException {
        requireIndex(set.sizes.has(size));
        history.remember(set);
        set.sizes.drop(size);
        return set.sizes.sizeCount();
    }

    /** Returns the pixels, the extra or the mean weight of a size. */
    public int size(int size, int what) throws IndexOutOfBoundsException, IllegalArgumentException {
        requireIndex(set.sizes.has(size));
        requireArgument(within(what, 0, 2));
        switch (what) {
            case 0:
                return set.sizes.pixelsOf(size);
            case 1:
                return set.sizes.extraOf(size);
            default:
                return meanWeight(set.sizes.pixelsOf(size), set.sizes.extraOf(size));
        }
    }

    /** Changes the extra of a size and returns the previous one. */
    public int setExtra(int size, int extra) throws IndexOutOfBoundsException, IllegalArgumentException {
        requireIndex(set.sizes.has(size));
        requireArgument(within(extra, -MAX_EXTRA, MAX_EXTRA));
        history.remember(set);
        int previous = set.sizes.extraOf(size);
        set.sizes.putExtra(size, extra);
        return previous;
    }

    /** Returns the stroke of a thickness at a size, in pixels. */
    public int stroke(int size, int thickness) throws IndexOutOfBoundsException, IllegalArgumentException {
        requireIndex(set.sizes.has(size));
        requireArgument(within(thickness, 1, MAX_THICKNESS));
        return strokeOf(thickness, set.sizes.pixelsOf(size), set.sizes.extraOf(size));
    }

    /** Returns the number of the part with a name, or NONE. */
    public int findPart(long name) {
        return set.parts.find(name);
    }

    /** Returns the number of shapes or uses of a part, or the mask of the icons that use it. */
    public int part(int part, int what) throws IndexOutOfBoundsException, IllegalArgumentException {
        requireIndex(set.parts.hasRow(part));
        requireArgument(within(what, 0, 2));
        switch (what) {
            case 0:
                return set.parts.itemsOf(part);
            case 1:
                return set.usesOfPart(part);
            default:
                return set.iconsWithPart(part);
        }
    }

    /** Returns the kind or one of the numbers of a shape. */
    public int shape(int part, int shape, int what) throws IndexOutOfBoundsException, IllegalArgumentException {
        requireIndex(set.parts.hasItem(part, shape));
        requireArgument(within(what, SHAPE_KIND, SHAPE_E));
        return set.parts.number(part, shape, what);
    }

    /** Changes one of the numbers of a shape and returns the previous value. */
    public int setShape(int part, int shape, int what, int value)
            throws IndexOutOfBoundsException, IllegalArgumentException {
        requireIndex(set.parts.hasItem(part, shape));
        requireArgument(within(what, SHAPE_A, SHAPE_E));
        requireArgument(fitsShape(set.parts.number(part, shape, SHAPE_KIND), what, value));
        history.remember(set);
        int previous = set.parts.number(part, shape, what);
        set.parts.putNumber(part, shape, what, value);
        return previous;
    }

    /** Moves a shape and returns the number of icons that use its part. */
    public int moveShape(int part, int shape, int dx, int dy)
            throws IndexOutOfBoundsException, IllegalArgumentException {
        requireIndex(set.parts.hasItem(part, shape));
        requireArgument(isShift(dx, dy) && canShift(part, shape, dx, dy));
        history.remember(set);
        putShifted(part, shape, shape, dx, dy);
        return Integer.bitCount(set.iconsWithPart(part));
    }

    /** Adds a moved copy of a shape behind the shapes of its part and returns its number. */
    public int copyShape(int part, int shape, int dx, int dy)
            throws IndexOutOfBoundsException, IllegalArgumentException, IllegalStateException {
        requireIndex(set.parts.hasItem(part, shape));
        requireArgument(isShift(dx, dy) && canShift(part, shape, dx, dy));
        requireState(!set.parts.isRowFull(part));
        history.remember(set);
        int copy = set.parts.addItem(part);
        putShifted(part, shape, copy, dx, dy);
        return copy;
    }

    /** Removes a shape and returns the number of shapes that the part has left. */
    public int removeShape(int part, int shape) throws IndexOutOfBoundsException, IllegalStateException {
        requireIndex(set.parts.hasItem(part, shape));
        requireState(set.parts.itemsOf(part) > 1);
        history.remember(set);
        set.parts.dropItem(part, shape);
        return set.parts.itemsOf(part);
    }

    /** Returns the number of the icon with a name, or NONE. */
    public int findIcon(long name) {
        return set.icons.find(name);
    }

    /** Returns the number of uses of an icon. */
    public int uses(int icon) throws IndexOutOfBoundsException {
        requireIndex(set.icons.hasRow(icon));
        return set.icons.itemsOf(icon);
    }

    /** Returns the part or one of the shifts of a use. */
    public int use(int icon, int use, int what) throws IndexOutOfBoundsException, IllegalArgumentException {
        requireIndex(set.icons.hasItem(icon, use));
        requireArgument(within(what, USE_PART, USE_DOWN));
        return set.icons.number(icon, use, what);
    }

    /** Adds a use behind the other uses of an icon and returns its number. */
    public int addUse(int icon, int part, int dx, int dy)
            throws IndexOutOfBoundsException, IllegalArgumentException, IllegalStateException {
        requireIndex(set.icons.hasRow(icon) && set.parts.hasRow(part));
        requireArgument(isShift(dx, dy));
        requireState(!set.icons.isRowFull(icon));
        history.remember(set);
        int use = set.icons.addItem(icon);
        set.icons.putNumber(icon, use, USE_PART, part);
        set.icons.putNumber(icon, use, USE_RIGHT, dx);
        set.icons.putNumber(icon, use, USE_DOWN, dy);
        return use;
    }

    /** Changes the shift of a use and returns its part. */
    public int moveUse(int icon, int use, int dx, int dy)
            throws IndexOutOfBoundsException, IllegalArgumentException {
        requireIndex(set.icons.hasItem(icon, use));
        requireArgument(isShift(dx, dy));
        history.remember(set);
        set.icons.putNumber(icon, use, USE_RIGHT, dx);
        set.icons.putNumber(icon, use, USE_DOWN, dy);
        return set.icons.number(icon, use, USE_PART);
    }

    /** Removes a use and returns the number of uses that the icon has left. */
    public int removeUse(int icon, int use) throws IndexOutOfBoundsException {
        requireIndex(set.icons.hasItem(icon, use));
        history.remember(set);
        set.icons.dropItem(icon, use);
        return set.icons.itemsOf(icon);
    }

    /** Tells whether a pixel of an icon is inked. */
    public boolean isInked(int icon, int size, int column, int row) throws IndexOutOfBoundsException {
        requireDrawable(icon, size);
        int last = set.sizes.pixelsOf(size) - 1;
        requireIndex(within(column, 0, last) && within(row, 0, last));
        drawAt(drawing, icon, size);
        return drawing.hasInk(column, row);
    }

    /** Returns a measure of an icon at a size. */
    public int measure(int icon, int size, int what) throws IndexOutOfBoundsException, IllegalArgumentException {
        requireDrawable(icon, size);
        requireArgument(within(what, 0, 7));
        drawAt(drawing, icon, size);
        switch (what) {
            case 0:
                return drawing.ink();
            case 1:
                return drawing.weight();
            case 2:
                return topology.piecesOf(drawing);
            case 3:
                return topology.holesOf(drawing);
            case 4:
                return drawing.firstColumn();
            case 5:
                return drawing.firstRow();
            case 6:
                return drawing.lastColumn();
            default:
                return drawing.lastRow();
        }
    }

    /** Tells whether an icon is the same when it is turned over at a size. */
    public boolean isMirrored(int icon, int size, boolean down) throws IndexOutOfBoundsException {
        requireDrawable(icon, size);
        drawAt(drawing, icon, size);
        return down ? drawing.isSameUpsideDown() : drawing.isSameLeftToRight();
    }

    /** Counts the pixels that are inked in one of two icons alone. */
    public int difference(int icon, int other, int size) throws IndexOutOfBoundsException {
        requireIndex(set.icons.hasRow(icon) && set.icons.hasRow(other));
        requireIndex(set.sizes.has(size));
        drawAt(drawing, icon, size);
        drawAt(otherDrawing, other, size);
        return drawing.pixelsUnlike(otherDrawing);
    }

    /** Counts the pixels that would have no ink without one use of an icon. */
    public int alone(int icon, int use, int size) throws IndexOutOfBoundsException {
        requireIndex(set.icons.hasItem(icon, use) && set.sizes.has(size));
        drawAt(drawing, icon, size);
        otherDrawing.start(set.sizes.pixelsOf(size), set.sizes.extraOf(size));
        otherDrawing.inkIcon(set, icon, use, NONE);
        return drawing.pixelsUnlike(otherDrawing);
    }

    /** Tells whether an icon has the same topology at all sizes. */
    public boolean keepsTopology(int icon) throws IndexOutOfBoundsException {
        requireIndex(set.icons.hasRow(icon));
        int wanted = topologyAt(icon, set.sizes.pixelsOf(0), set.sizes.extraOf(0));
        for (int size = 1; size < set.sizes.sizeCount(); size++) {
            if (topologyAt(icon, set.sizes.pixelsOf(size), set.sizes.extraOf(size)) != wanted) {
                return false;
            }
        }
        return true;
    }

    /** Finds the fewest pixels from which on, up to 32, an icon has the topology that it has with 32. */
    public int smallest(int icon) throws IndexOutOfBoundsException {
        requireIndex(set.icons.hasRow(icon));
        int wanted = topologyAt(icon, MAX_PIXELS, 0);
        int fewest = MAX_PIXELS;
        for (int pixels = MAX_PIXELS - 1; pixels >= MIN_PIXELS; pixels--) {
            if (topologyAt(icon, pixels, 0) != wanted) {
                break;
            }
            fewest = pixels;
        }
        return fewest;
    }

    /** Finds the icon with the greatest or least weight at a size. */
    public int extreme(int size, boolean greatest) throws IndexOutOfBoundsException, NoSuchElementException {
        requireIndex(set.sizes.has(size));
        requireIcons();
        int found = 0;
        int foundWeight = greatest ? NONE : FULL_WEIGHT + 1;
        for (int icon = 0; icon < set.icons.rowCount(); icon++) {
            drawAt(drawing, icon, size);
            int weight = drawing.weight();
            if (greatest ? weight > foundWeight : weight < foundWeight) {
                found = icon;
                foundWeight = weight;
            }
        }
        return found;
    }

    /** Finds the extra that brings the mean weight of a size closest to that of the last size. */
    public int bestExtra(int size) throws IndexOutOfBoundsException, NoSuchElementException {
        requireIndex(set.sizes.has(size));
        requireIcons();
        int last = set.sizes.sizeCount() - 1;
        int wanted = meanWeight(set.sizes.pixelsOf(last), set.sizes.extraOf(last));
        int pixels = set.sizes.pixelsOf(size);
        int best = 0;
        int bestDistance = FULL_WEIGHT + 1;
        for (int extra : EXTRAS_BY_PREFERENCE) {
            int distance = Math.abs(meanWeight(pixels, extra) - wanted);
            if (distance < bestDistance) {
                best = extra;
                bestDistance = distance;
            }
        }
        return best;
    }

    /** Counts the icons in which no pixel depends on a part at a size. */
    public int indifferent(int part, int size) throws IndexOutOfBoundsException {
        requireIndex(set.parts.hasRow(part) && set.sizes.has(size));
        int found = 0;
        for (int icon = 0; icon < set.icons.rowCount(); icon++) {
            drawAt(drawing, icon, size);
            otherDrawing.start(set.sizes.pixelsOf(size), set.sizes.extraOf(size));
            otherDrawing.inkIcon(set, icon, NONE, part);
            if (drawing.pixelsUnlike(otherDrawing) == 0) {
                found++;
            }
        }
        return found;
    }

    /** Writes an icon at a size as a text and returns its length. */
    public int writeIcon(int icon, int size) throws IndexOutOfBoundsException {
        requireDrawable(icon, size);
        drawAt(written, icon, size);
        return written.textLength();
    }

    /** Returns a byte of the text that was written last. */
    public int writtenByte(int index) throws IndexOutOfBoundsException {
        requireIndex(within(index, 0, written.textLength() - 1));
        return written.textByte(index);
    }

    /** Undoes the latest change; returns the number of changes that can still be undone. */
    public int undo() throws IllegalStateException {
        requireState(history.depth() > 0);
        history.bringBack(set);
        return history.depth();
    }

    private static boolean within(int value, int least, int greatest) {
        return value >= least && value <= greatest;
    }

    private static void requireIndex(boolean exists) {
        if (!exists) {
            throw new IndexOutOfBoundsException("there is nothing with this index");
        }
    }

    private static void requireArgument(boolean allowed) {
        if (!allowed) {
            throw new IllegalArgumentException("an argument is out of range");
        }
    }

    private static void requireState(boolean possible) {
        if (!possible) {
            throw new IllegalStateException("this cannot be done now");
        }
    }

    private void requireDrawable(int icon, int size) {
        requireIndex(set.icons.hasRow(icon) && set.sizes.has(size));
    }

    private void requireIcons() {
        if (set.icons.rowCount() == 0) {
            throw new NoSuchElementException("there are no icons");
        }
    }

    /** Rounds units to pixels, halves upward, also for negative units. */
    private static int snapped(int units, int pixels) {
        return Math.floorDiv(2 * units * pixels + GRID, 2 * GRID);
    }

    private static int strokeOf(int thickness, int pixels, int extra) {
        return Math.max(1, snapped(thickness, pixels) + extra);
    }

    private static boolean isShift(int dx, int dy) {
        return within(dx, -MAX_SHIFT, MAX_SHIFT) && within(dy, -MAX_SHIFT, MAX_SHIFT);
    }

    private static boolean fitsShape(int kind, int what, int value) {
        return within(value, leastOf(kind, what), greatestOf(kind, what));
    }

    private static int leastOf(int kind, int what) {
        switch (what) {
            case SHAPE_C:
            case SHAPE_D:
                return kind == LINE ? 0 : 1;
            case SHAPE_E:
                return kind == BAR ? 0 : 1;
            default:
                return 0;
        }
    }

    private static int greatestOf(int kind, int what) {
        switch (what) {
            case SHAPE_A:
            case SHAPE_B:
                return kind == LINE ? GRID : GRID - 1;
            case SHAPE_E:
                return kind == BAR ? 0 : MAX_THICKNESS;
            default:
                return GRID;
        }
    }

    /** Returns a number of a shape as it would be after a move. */
    private int shiftedNumber(int part, int shape, int what, int dx, int dy) {
        int value = set.parts.number(part, shape, what);
        boolean line = set.parts.number(part, shape, SHAPE_KIND) == LINE;
        if (what == SHAPE_A || line && what == SHAPE_C) {
            return value + dx;
        }
        if (what == SHAPE_B || line && what == SHAPE_D) {
            return value + dy;
        }
        return value;
    }

    private boolean canShift(int part, int shape, int dx, int dy) {
        int kind = set.parts.number(part, shape, SHAPE_KIND);
        for (int what = SHAPE_A; what <= SHAPE_E; what++) {
            if (!fitsShape(kind, what, shiftedNumber(part, shape, what, dx, dy))) {
                return false;
            }
        }
        return true;
    }

    /** Gives one shape of a part the numbers of another one, moved; both may be the same shape. */
    private void putShifted(int part, int from, int to, int dx, int dy) {
        for (int what = SHAPE_KIND; what <= SHAPE_E; what++) {
            set.parts.putNumber(part, to, what, shiftedNumber(part, from, what, dx, dy));
        }
    }

    private void drawAt(Drawing target, int icon, int size) {
        target.start(set.sizes.pixelsOf(size), set.sizes.extraOf(size));
        target.inkIcon(set, icon, NONE, NONE);
    }

    private int meanWeight(int pixels, int extra) {
        int icons = set.icons.rowCount();
        if (icons == 0) {
            return 0;
        }
        int sum = 0;
        for (int icon = 0; icon < icons; icon++) {
            drawing.start(pixels, extra);
            drawing.inkIcon(set, icon, NONE, NONE);
            sum += drawing.weight();
        }
        return sum / icons;
    }

    /** Returns the pieces and the holes as one number; there are fewer than 1024 of each. */
    private int topologyAt(int icon, int pixels, int extra) {
        drawing.start(pixels, extra);
        drawing.inkIcon(set, icon, NONE, NONE);
        return topology.piecesOf(drawing) * MAX_PIXELS * MAX_PIXELS + topology.holesOf(drawing);
    }

    /** The sizes in ascending order of their pixels. */
    private static final class SizeList {
        private final int[] pixels;
        private final int[] extras;
        private int sizes;

        SizeList() {
            pixels = new int[MAX_SIZES];
            extras = new int[MAX_SIZES];
            sizes = 0;
        }

        void clear() {
            sizes = 0;
        }

        void copyFrom(SizeList other) {
            sizes = other.sizes;
            System.arraycopy(other.pixels, 0, pixels, 0, MAX_SIZES);
            System.arraycopy(other.extras, 0, extras, 0, MAX_SIZES);
        }

        int sizeCount() {
            return sizes;
        }

        boolean has(int size) {
            return size >= 0 && size < sizes;
        }

        boolean isFull() {
            return sizes >= MAX_SIZES;
        }

        int pixelsOf(int size) {
            return has(size) ? pixels[size] : 0;
        }

        int extraOf(int size) {
            return has(size) ? extras[size] : 0;
        }

        void putExtra(int size, int extra) {
            if (has(size)) {
                extras[size] = extra;
            }
        }

        int find(int wanted) {
            for (int size = 0; size < sizes; size++) {
                if (pixels[size] == wanted) {
                    return size;
                }
            }
            return NONE;
        }

        int insert(int added) {
            if (isFull()) {
                return NONE;
            }
            int place = sizes;
            while (place > 0 && pixels[place - 1] > added) {
                pixels[place] = pixels[place - 1];
                extras[place] = extras[place - 1];
                place--;
            }
            pixels[place] = added;
            extras[place] = 0;
            sizes++;
            return place;
        }

        void drop(int size) {
            if (!has(size)) {
                return;
            }
            for (int place = size; place < sizes - 1; place++) {
                pixels[place] = pixels[place + 1];
                extras[place] = extras[place + 1];
            }
            sizes--;
        }
    }

    /**
     * Named rows of items, an item being a few numbers: the parts with their shapes, or the icons
     * with their uses.
     */
    private static final class Rows {
        private final int width;
        private final long[] names;
        private final int[] items;
        private final int[] numbers;
        private int rows;

        Rows(boolean ofShapes) {
            width = ofShapes ? SHAPE_NUMBERS : USE_NUMBERS;
            names = new long[MAX_ROWS];
            items = new int[MAX_ROWS];
            numbers = ofShapes
                    ? new int[MAX_ROWS * MAX_ITEMS * SHAPE_NUMBERS]
                    : new int[MAX_ROWS * MAX_ITEMS * USE_NUMBERS];
            rows = 0;
        }

        void clear() {
            rows = 0;
        }

        void copyFrom(Rows other) {
            rows = other.rows;
            System.arraycopy(other.names, 0, names, 0, MAX_ROWS);
            System.arraycopy(other.items, 0, items, 0, MAX_ROWS);
            System.arraycopy(other.numbers, 0, numbers, 0, Math.min(numbers.length, other.numbers.length));
        }

        int rowCount() {
            return rows;
        }

        boolean hasRow(int row) {
            return row >= 0 && row < rows;
        }

        boolean isFull() {
            return rows >= MAX_ROWS;
        }

        int find(long name) {
            for (int row = 0; row < rows; row++) {
                if (names[row] == name) {
                    return row;
                }
            }
            return NONE;
        }

        int addRow(long name) {
            if (isFull()) {
                return NONE;
            }
            names[rows] = name;
            items[rows] = 0;
            rows++;
            return rows - 1;
        }

        int itemsOf(int row) {
            return hasRow(row) ? items[row] : 0;
        }

        boolean hasItem(int row, int item) {
            return hasRow(row) && item >= 0 && item < items[row];
        }

        boolean isRowFull(int row) {
            return itemsOf(row) >= MAX_ITEMS;
        }

        int allItems() {
            int all = 0;
            for (int row = 0; row < rows; row++) {
                all += items[row];
            }
            return all;
        }

        /** Adds an item whose numbers are all 0. */
        int addItem(int row) {
            if (!hasRow(row) || items[row] >= MAX_ITEMS) {
                return NONE;
            }
            items[row]++;
            int item = items[row] - 1;
            for (int what = 0; what < width; what++) {
                putNumber(row, item, what, 0);
            }
            return item;
        }

        void dropItem(int row, int item) {
            if (!hasItem(row, item)) {
                return;
            }
            for (int place = item; place < items[row] - 1; place++) {
                for (int what = 0; what < width; what++) {
                    putNumber(row, place, what, number(row, place + 1, what));
                }
            }
            items[row]--;
        }

        int number(int row, int item, int what) {
            int cell = cellOf(row, item, what);
            return within(cell, 0, numbers.length - 1) ? numbers[cell] : 0;
        }

        void putNumber(int row, int item, int what, int value) {
            int cell = cellOf(row, item, what);
            if (within(cell, 0, numbers.length - 1)) {
                numbers[cell] = value;
            }
        }

        private int cellOf(int row, int item, int what) {
            if (row < 0 || row >= rows || item < 0 || item >= items[row] || what < 0 || what >= width) {
                return NONE;
            }
            return (row * MAX_ITEMS + item) * width + what;
        }
    }

    /** The sizes, parts and icons: what a change changes and undo brings back. */
    private static final class IconSet {
        final SizeList sizes;
        final Rows parts;
        final Rows icons;

        IconSet() {
            sizes = new SizeList();
            parts = new Rows(true);
            icons = new Rows(false);
        }

        void clear() {
            sizes.clear();
            parts.clear();
            icons.clear();
        }

        void copyFrom(IconSet other) {
            sizes.copyFrom(other.sizes);
            parts.copyFrom(other.parts);
            icons.copyFrom(other.icons);
        }

        int usesOfPart(int part) {
            int found = 0;
            for (int icon = 0; icon < icons.rowCount(); icon++) {
                found += usesInIcon(icon, part);
            }
            return found;
        }

        int iconsWithPart(int part) {
            int mask = 0;
            for (int icon = 0; icon < icons.rowCount(); icon++) {
                if (usesInIcon(icon, part) > 0) {
                    mask |= 1 << icon;
                }
            }
            return mask;
        }

        int unusedParts() {
            int found = 0;
            for (int part = 0; part < parts.rowCount(); part++) {
                if (usesOfPart(part) == 0) {
                    found++;
                }
            }
            return found;
        }

        private int usesInIcon(int icon, int part) {
            int found = 0;
            for (int use = 0; use < icons.itemsOf(icon); use++) {
                if (icons.number(icon, use, USE_PART) == part) {
                    found++;
                }
            }
            return found;
        }
    }

    /** The sets as they were before the latest changes, in a ring that is filled again and again. */
    private static final class History {
        private final IconSet[] ring;
        private int next;
        private int kept;

        History() {
            ring = new IconSet[MAX_CHANGES];
            for (int place = 0; place < MAX_CHANGES; place++) {
                ring[place] = new IconSet();
            }
            next = 0;
            kept = 0;
        }

        int depth() {
            return kept;
        }

        void remember(IconSet present) {
            IconSet oldest = at(next);
            if (oldest == null) {
                return;
            }
            oldest.copyFrom(present);
            next = (next + 1) % MAX_CHANGES;
            kept = Math.min(kept + 1, MAX_CHANGES);
        }

        void bringBack(IconSet present) {
            int latest = (next + MAX_CHANGES - 1) % MAX_CHANGES;
            IconSet before = at(latest);
            if (before == null || kept == 0) {
                return;
            }
            present.copyFrom(before);
            next = latest;
            kept--;
        }

        private IconSet at(int place) {
            return within(place, 0, MAX_CHANGES - 1) ? ring[place] : null;
        }
    }

    /** The text buffer, kept as the words of four bytes in which it comes. */
    private static final class TextBuffer {
        private final int[] words;
        private int filled;

        TextBuffer() {
            words = new int[MAX_TEXT / WORD_BYTES];
            filled = 0;
        }

        void clear() {
            filled = 0;
        }

        int length() {
            return filled * WORD_BYTES;
        }

        void put(int word) {
            if (within(filled, 0, words.length - 1)) {
                words[filled] = word;
                filled++;
            }
        }

        /** Returns a byte as 0 to 255, or NONE behind the end. */
        int byteAt(int index) {
            int word = index >> 2;
            if (word < 0 || word >= filled || word >= words.length) {
                return NONE;
            }
            return (words[word] >>> (8 * (WORD_BYTES - 1 - (index & 3)))) & 255;
        }
    }

    /** The text buffer, and the draft of a set that is read from it up to the first error. */
    private static final class SetReader {
        // The words of the grammar, packed like the names that findPart takes.
        private static final long WORD_SIZE = 19L << 15 | 9L << 10 | 26L << 5 | 5L;
        private static final long WORD_EXTRA = 5L << 20 | 24L << 15 | 20L << 10 | 18L << 5 | 1L;
        private static final long WORD_PART = 16L << 15 | 1L << 10 | 18L << 5 | 20L;
        private static final long WORD_ICON = 9L << 15 | 3L << 10 | 15L << 5 | 14L;
        private static final long WORD_BAR = 2L << 10 | 1L << 5 | 18L;
        private static final long WORD_BOX = 2L << 10 | 15L << 5 | 24L;
        private static final long WORD_LINE = 12L << 15 | 9L << 10 | 14L << 5 | 5L;
        private static final long WORD_AT = 1L << 5 | 20L;
        private static final long NO_NAME = 0L;
        /** No number of the grammar is as great; a longer sequence of digits stays at it. */
        private static final int GREAT_NUMBER = 1000;

        final TextBuffer text;
        final IconSet draft;
        private int length;
        private int position;
        private int tokenStart;
        private int number;
        private int code;
        private int errorAt;

        SetReader() {
            text = new TextBuffer();
            draft = new IconSet();
            errorAt = NONE;
        }

        int errorCode() {
            return code;
        }

        int errorPlace() {
            return errorAt;
        }

        /** Reads the first bytes of the buffer into the draft; false if there is an error. */
        boolean readSet(int textLength) {
            length = textLength;
            position = 0;
            code = 0;
            errorAt = NONE;
            draft.clear();
            for (int statement = 0; statement < MAX_TEXT && peek() != NONE; statement++) {
                long word = readWord();
                boolean read = word == WORD_SIZE ? readSize()
                        : word == WORD_PART ? readRow(draft.parts, true)
                        : word == WORD_ICON ? readRow(draft.icons, false)
                        : fail(SYNTAX_ERROR, tokenStart);
                if (!read) {
                    return false;
                }
                if (peek() != ';') {
                    return fail(SYNTAX_ERROR, position);
                }
                position++;
            }
            return true;
        }

        private boolean fail(int errorCode, int place) {
            code = errorCode;
            errorAt = place;
            return false;
        }

        private boolean readSize() {
            if (draft.sizes.isFull()) {
                return fail(TOO_MANY, tokenStart);
            }
            if (!readNumber(MIN_PIXELS, MAX_PIXELS)) {
                return false;
            }
            if (draft.sizes.find(number) != NONE) {
                return fail(VALUE_ERROR, tokenStart);
            }
            int size = draft.sizes.insert(number);
            if (!isLetter(peek())) {
                return true;
            }
            if (readWord() != WORD_EXTRA) {
                return fail(SYNTAX_ERROR, tokenStart);
            }
            if (!readNumber(-MAX_EXTRA, MAX_EXTRA)) {
                return false;
            }
            draft.sizes.putExtra(size, number);
            return true;
        }

        /** Reads a part or an icon behind its first word: the name, and the shapes or uses. */
        private boolean readRow(Rows rows, boolean ofShapes) {
            if (rows.isFull()) {
                return fail(TOO_MANY, tokenStart);
            }
            long name = readWord();
            if (name == NO_NAME) {
                return fail(SYNTAX_ERROR, tokenStart);
            }
            if (rows.find(name) != NONE) {
                return fail(VALUE_ERROR, tokenStart);
            }
            int row = rows.addRow(name);
            if (!ofShapes && !isLetter(peek())) {
                return true;
            }
            for (int item = 0; item < MAX_ITEMS; item++) {
                if (!(ofShapes ? readShape(row) : readUse(row))) {
                    return false;
                }
                if (peek() != ',') {
                    return true;
                }
                tokenStart = position;
                position++;
            }
            return fail(TOO_MANY, tokenStart);
        }

        private boolean readShape(int part) {
            long word = readWord();
            int kind = word == WORD_BAR ? BAR : word == WORD_BOX ? BOX : word == WORD_LINE ? LINE : NONE;
            if (kind == NONE) {
                return fail(SYNTAX_ERROR, tokenStart);
            }
            int shape = draft.parts.addItem(part);
            draft.parts.putNumber(part, shape, SHAPE_KIND, kind);
            int last = kind == BAR ? SHAPE_D : SHAPE_E;
            for (int what = SHAPE_A; what <= last; what++) {
                if (!readNumber(leastOf(kind, what), greatestOf(kind, what))) {
                    return false;
                }
                draft.parts.putNumber(part, shape, what, number);
            }
            return true;
        }

        private boolean readUse(int icon) {
            long name = readWord();
            if (name == NO_NAME) {
                return fail(SYNTAX_ERROR, tokenStart);
            }
            int part = draft.parts.find(name);
            if (part == NONE) {
                return fail(VALUE_ERROR, tokenStart);
            }
            int use = draft.icons.addItem(icon);
            draft.icons.putNumber(icon, use, USE_PART, part);
            if (!isLetter(peek())) {
                return true;
            }
            if (readWord() != WORD_AT) {
                return fail(SYNTAX_ERROR, tokenStart);
            }
            for (int what = USE_RIGHT; what <= USE_DOWN; what++) {
                if (!readNumber(-MAX_SHIFT, MAX_SHIFT)) {
                    return false;
                }
                draft.icons.putNumber(icon, use, what, number);
            }
            return true;
        }

        /** Reads a number; the grammar allows a minus where the range has negative numbers. */
        private boolean readNumber(int least, int greatest) {
            boolean negative = least < 0 && peek() == '-';
            if (negative) {
                position++;
            }
            peek();
            tokenStart = position;
            int value = 0;
            while (position < length && isDigit(text.byteAt(position))) {
                value = Math.min(GREAT_NUMBER, value * 10 + text.byteAt(position) - '0');
                position++;
            }
            if (position == tokenStart) {
                return fail(SYNTAX_ERROR, tokenStart);
            }
            number = negative ? -value : value;
            return within(number, least, greatest) || fail(VALUE_ERROR, tokenStart);
        }

        /** Reads the word that stands here: its packed letters, or NO_NAME without or with too many. */
        private long readWord() {
            peek();
            tokenStart = position;
            long word = NO_NAME;
            while (position < length && isLetter(text.byteAt(position))) {
                long letter = text.byteAt(position) - 'a' + 1;
                word = position - tokenStart < MAX_LETTERS ? word << 5 | letter : NO_NAME;
                position++;
            }
            return word;
        }

        /** Passes over spaces and returns the byte behind them, or NONE at the end of the text. */
        private int peek() {
            while (position < length && text.byteAt(position) == ' ') {
                position++;
            }
            return position < length ? text.byteAt(position) : NONE;
        }

        private static boolean isLetter(int sign) {
            return sign >= 'a' && sign <= 'z';
        }

        private static boolean isDigit(int sign) {
            return sign >= '0' && sign <= '9';
        }
    }

    /** A square of pixels: each row is an int whose bit i stands for column i. */
    private static final class Drawing {
        private final int[] rows;
        private int pixels;
        private int extra;

        Drawing() {
            rows = new int[MAX_PIXELS];
            pixels = 0;
            extra = 0;
        }

        /** Begins a square without ink. */
        void start(int newPixels, int newExtra) {
            pixels = within(newPixels, 0, MAX_PIXELS) ? newPixels : 0;
            extra = newExtra;
            for (int row = 0; row < MAX_PIXELS; row++) {
                rows[row] = 0;
            }
        }

        /** Inks an icon; a use, or all uses of a part, may be left out (NONE: nothing is). */
        void inkIcon(IconSet set, int icon, int useLeftOut, int partLeftOut) {
            for (int use = 0; use < set.icons.itemsOf(icon); use++) {
                int part = set.icons.number(icon, use, USE_PART);
                if (use == useLeftOut || part == partLeftOut) {
                    continue;
                }
                int dx = set.icons.number(icon, use, USE_RIGHT);
                int dy = set.icons.number(icon, use, USE_DOWN);
                for (int shape = 0; shape < set.parts.itemsOf(part); shape++) {
                    inkShape(set.parts, part, shape, dx, dy);
                }
            }
        }

        private void inkShape(Rows parts, int part, int shape, int dx, int dy) {
            int kind = parts.number(part, shape, SHAPE_KIND);
            int x = parts.number(part, shape, SHAPE_A) + dx;
            int y = parts.number(part, shape, SHAPE_B) + dy;
            int c = parts.number(part, shape, SHAPE_C);
            int d = parts.number(part, shape, SHAPE_D);
            int stroke = strokeOf(parts.number(part, shape, SHAPE_E), pixels, extra);
            int left = snapped(x, pixels);
            int top = snapped(y, pixels);
            if (kind == LINE) {
                inkLine(left, top, snapped(c + dx, pixels), snapped(d + dy, pixels), stroke);
                return;
            }
            int right = Math.max(left + 1, snapped(x + c, pixels));
            int bottom = Math.max(top + 1, snapped(y + d, pixels));
            if (kind == BOX) {
                inkOutline(left, top, right, bottom, stroke);
            } else {
                inkArea(left, top, right, bottom);
            }
        }

        private void inkOutline(int left, int top, int right, int bottom, int stroke) {
            inkArea(left, top, Math.min(right, left + stroke), bottom);
            inkArea(Math.max(left, right - stroke), top, right, bottom);
            inkArea(left, top, right, Math.min(bottom, top + stroke));
            inkArea(left, Math.max(top, bottom - stroke), right, bottom);
        }

        private void inkLine(int x0, int y0, int x1, int y1, int stroke) {
            int before = (stroke - 1) / 2;
            int steps = Math.max(Math.abs(x1 - x0), Math.abs(y1 - y0));
            for (int k = 0; k <= steps; k++) {
                int left = x0 + alongLine(k, x1 - x0, steps) - before;
                int top = y0 + alongLine(k, y1 - y0, steps) - before;
                inkArea(left, top, left + stroke, top + stroke);
            }
        }

        private static int alongLine(int k, int distance, int steps) {
            return steps <= 0 ? 0 : Math.floorDiv(2 * k * distance + steps, 2 * steps);
        }

        /** Inks what lies inside the square; right and bottom are the first ones behind the area. */
        private void inkArea(int left, int top, int right, int bottom) {
            int mask = columnMask(Math.max(left, 0), Math.min(right, pixels));
            int end = Math.min(bottom, pixels);
            for (int row = Math.max(top, 0); row < end; row++) {
                rows[row] |= mask;
            }
        }

        private static int columnMask(int first, int end) {
            if (first >= end) {
                return 0;
            }
            return (-1 << first) & (-1 >>> (MAX_PIXELS - end));
        }

        int side() {
            return pixels;
        }

        int rowAt(int row) {
            return within(row, 0, MAX_PIXELS - 1) ? rows[row] : 0;
        }

        boolean hasInk(int column, int row) {
            return within(column, 0, MAX_PIXELS - 1) && (rowAt(row) >>> column & 1) == 1;
        }

        int ink() {
            int found = 0;
            for (int row = 0; row < MAX_PIXELS; row++) {
                found += Integer.bitCount(rows[row]);
            }
            return found;
        }

        int weight() {
            int area = pixels * pixels;
            return area == 0 ? 0 : FULL_WEIGHT * ink() / area;
        }

        int pixelsUnlike(Drawing other) {
            int found = 0;
            for (int row = 0; row < MAX_PIXELS; row++) {
                found += Integer.bitCount(rows[row] ^ other.rows[row]);
            }
            return found;
        }

        int firstColumn() {
            int all = allRows();
            for (int column = 0; column < MAX_PIXELS; column++) {
                if ((all >>> column & 1) == 1) {
                    return column;
                }
            }
            return NONE;
        }

        int lastColumn() {
            int all = allRows();
            for (int column = MAX_PIXELS - 1; column >= 0; column--) {
                if ((all >>> column & 1) == 1) {
                    return column;
                }
            }
            return NONE;
        }

        int firstRow() {
            for (int row = 0; row < MAX_PIXELS; row++) {
                if (rows[row] != 0) {
                    return row;
                }
            }
            return NONE;
        }

        int lastRow() {
            for (int row = MAX_PIXELS - 1; row >= 0; row--) {
                if (rows[row] != 0) {
                    return row;
                }
            }
            return NONE;
        }

        private int allRows() {
            int all = 0;
            for (int row = 0; row < MAX_PIXELS; row++) {
                all |= rows[row];
            }
            return all;
        }

        boolean isSameUpsideDown() {
            for (int row = 0; row < pixels; row++) {
                if (rowAt(row) != rowAt(pixels - 1 - row)) {
                    return false;
                }
            }
            return true;
        }

        boolean isSameLeftToRight() {
            for (int row = 0; row < pixels; row++) {
                for (int column = 0; column < pixels; column++) {
                    if (hasInk(column, row) != hasInk(pixels - 1 - column, row)) {
                        return false;
                    }
                }
            }
            return true;
        }

        /** A line of the text has a line feed behind its pixels. */
        int textLength() {
            return pixels * (pixels + 1);
        }

        int textByte(int index) {
            int line = pixels + 1;
            int column = line <= 0 ? 0 : index % line;
            int row = line <= 0 ? 0 : index / line;
            if (column == pixels) {
                return '\n';
            }
            return hasInk(column, row) ? '#' : '.';
        }
    }

    /** Counts the pieces and holes of a drawing by spreading from pixel to pixel, whole rows at once. */
    private static final class Topology {
        private final int[] open;
        private final int[] group;
        private int side;

        Topology() {
            open = new int[MAX_PIXELS];
            group = new int[MAX_PIXELS];
            side = 0;
        }

        int piecesOf(Drawing drawing) {
            side = Math.min(drawing.side(), MAX_PIXELS);
            for (int row = 0; row < MAX_PIXELS; row++) {
                open[row] = drawing.rowAt(row);
            }
            return countGroups(true, false);
        }

        int holesOf(Drawing drawing) {
            side = Math.min(drawing.side(), MAX_PIXELS);
            int all = Drawing.columnMask(0, side);
            for (int row = 0; row < MAX_PIXELS; row++) {
                open[row] = row < side ? ~drawing.rowAt(row) & all : 0;
            }
            return countGroups(false, true);
        }

        private int countGroups(boolean diagonal, boolean insideOnly) {
            int found = 0;
            for (int row = 0; row < side; row++) {
                for (int column = 0; column < side; column++) {
                    if ((open[row] >>> column & 1) == 0) {
                        continue;
                    }
                    takeGroup(row, column, diagonal);
                    if (!insideOnly || !groupTouchesEdge()) {
                        found++;
                    }
                }
            }
            return found;
        }

        /** Moves the open pixels that are connected with one of them into the group. */
        private void takeGroup(int seedRow, int seedColumn, boolean diagonal) {
            for (int row = 0; row < MAX_PIXELS; row++) {
                group[row] = row == seedRow ? 1 << seedColumn : 0;
            }
            boolean grown = true;
            // Each sweep but the last adds a pixel, so there cannot be more sweeps than pixels.
            for (int sweep = 0; sweep < MAX_PIXELS * MAX_PIXELS && grown; sweep++) {
                grown = false;
                for (int row = 0; row < side; row++) {
                    grown = growRow(row, diagonal) || grown;
                }
                for (int row = side - 1; row >= 0; row--) {
                    grown = growRow(row, diagonal) || grown;
                }
            }
            for (int row = 0; row < side; row++) {
                open[row] &= ~group[row];
            }
        }

        private boolean growRow(int row, boolean diagonal) {
            int reached = group[row];
            int beside = (row > 0 ? group[row - 1] : 0) | (row < MAX_PIXELS - 1 ? group[row + 1] : 0);
            reached |= diagonal ? beside | beside << 1 | beside >>> 1 : beside;
            reached &= open[row];
            for (int step = 0; step < MAX_PIXELS; step++) {
                int wider = (reached | reached << 1 | reached >>> 1) & open[row];
                if (wider == reached) {
                    break;
                }
                reached = wider;
            }
            boolean grown = reached != group[row];
            group[row] = reached;
            return grown;
        }

        private boolean groupTouchesEdge() {
            if (side <= 0 || group[0] != 0 || group[side - 1] != 0) {
                return true;
            }
            int edges = 1 | 1 << side - 1;
            for (int row = 0; row < side; row++) {
                if ((group[row] & edges) != 0) {
                    return true;
                }
            }
            return false;
        }
    }
}
