import java.util.Arrays;

/** Raster graphics for a sheet of dots; the document's numbered promises say what each call answers. */
public final class RasterRows {
    public static final int NONE = -1;

    private static final int MAX_SIDE = 5100;
    private static final int MAX_SIZE = 5119;
    private static final int MAX_PLACE = 10000;
    private static final int MAX_SKIP = 10000;
    private static final int MAX_METHOD = 3;
    private static final int MAX_PART = 8;
    private static final int MAX_PACKED = 4096;
    private static final int MAX_LENGTH = 640;
    private static final int MAX_KEPT_ROWS = 4096;
    private static final int MAX_KEPT_BYTES = 65536;

    private final int dpi;
    private final Sheet sheet;
    private final Raster raster;
    private final Packed packed;
    private int resolution;
    private int method;
    // 0 stands for "none", as in the calls of size.
    private int nextWidth;
    private int nextHeight;

    public RasterRows(int width, int height, int dpi) {
        this.dpi = dpi >= 300 ? 300 : dpi >= 150 ? 150 : 75;
        sheet = new Sheet(width, height);
        raster = new Raster();
        packed = new Packed();
        resolution = 75;
        method = 0;
        nextWidth = 0;
        nextHeight = 0;
    }

    public boolean resolution(int r) {
        if (raster.open || !isResolution(r)) {
            return false;
        }
        resolution = r;
        return true;
    }

    public boolean size(boolean high, int n) {
        if (n < 0 || n > MAX_SIZE) {
            return false;
        }
        if (high) {
            nextHeight = n;
        } else {
            nextWidth = n;
        }
        return true;
    }

    public boolean method(int m) {
        if (m < 0 || m > MAX_METHOD) {
            return false;
        }
        method = m;
        return true;
    }

    public boolean open(int x, int y) {
        if (raster.open || !isPlace(x) || !isPlace(y)) {
            return false;
        }
        raster.begin(x, y, scaleNow());
        raster.limit(nextWidth, nextHeight);
        return true;
    }

    public boolean data(long part, int n) {
        if (n < 1 || n > MAX_PART || !packed.hasRoomFor(n)) {
            return false;
        }
        for (int i = n - 1; i >= 0; i--) {
            packed.add((int) (part >>> (8 * i)) & 255);
        }
        return true;
    }

    public int row() throws IllegalStateException {
        if (!raster.open) {
            throw new IllegalStateException("no raster is open");
        }
        int number = NONE;
        if (!raster.hasAllRows()) {
            number = raster.row;
            packed.unpack(method, raster);
            sheet.take(raster);
            raster.row++;
        }
        // The document takes the bytes also for a row that the HEIGHT leaves without effect.
        packed.count = 0;
        return number;
    }

    public int skip(int n) throws IllegalArgumentException, IllegalStateException {
        if (n < 0 || n > MAX_SKIP) {
            throw new IllegalArgumentException("n is not 0 .. 10000");
        }
        if (!raster.open) {
            throw new IllegalStateException("no raster is open");
        }
        raster.pass(n);
        raster.clearSeed();
        return raster.row;
    }

    public int shut() throws IllegalStateException {
        if (!raster.open) {
            throw new IllegalStateException("no raster is open");
        }
        raster.end();
        method = 0;
        return raster.top();
    }

    public void eject() {
        sheet.whiten();
    }

    public long line(int y, int k) {
        return sheet.wordOf(y, k);
    }

    public boolean black(int x, int y) throws IndexOutOfBoundsException {
        if (!sheet.has(x, y)) {
            throw new IndexOutOfBoundsException("the sheet has no such dot");
        }
        return (sheet.wordOf(y, x >> 6) & Line.bitOf(x)) != 0;
    }

    public int seed(int i) {
        return raster.open && raster.hasByte(i) ? raster.seed[i] : NONE;
    }

    public int look(int which) {
        switch (which) {
            case 0: return sheet.across;
            case 1: return sheet.down;
            case 2: return dpi;
            case 3: return resolution;
            case 4: return method;
            case 5: return raster.open ? 1 : 0;
            case 6: return raster.open ? raster.row : NONE;
            case 7: return raster.open ? raster.length : NONE;
            case 8: return raster.open ? raster.scale : NONE;
            case 9: return packed.count;
            case 10: return sheet.keptRows;
            case 11: return sheet.keptBytes;
            case 12: return sheet.overrun ? 1 : 0;
            case 13: return sheet.blackDots;
            default: return NONE;
        }
    }

    private static int sideOf(int n) {
        return Math.max(1, Math.min(n, MAX_SIDE));
    }

    private static boolean isResolution(int r) {
        return r == 75 || r == 100 || r == 150 || r == 300;
    }

    private static boolean isPlace(int n) {
        return n >= -MAX_PLACE && n <= MAX_PLACE;
    }

    private int scaleNow() {
        return resolution > 0 && resolution < dpi ? dpi / resolution : 1;
    }

    /** The bytes that are to be a row, and the four ways to unpack them. */
    private static final class Packed {
        final int[] bytes = new int[MAX_PACKED];
        int count = 0;

        boolean hasRoomFor(int n) {
            return n <= MAX_PACKED - count;
        }

        void add(int b) {
            if (count >= 0 && count < bytes.length) {
                bytes[count] = b;
                count++;
            }
        }

        int byteAt(int i) {
            return i >= 0 && i < count && i < bytes.length ? bytes[i] : 0;
        }

        void unpack(int method, Raster to) {
            if (method == 3) {
                unpackChanges(to);
                return;
            }
            to.clearSeed();
            if (method == 2) {
                unpackRuns(to);
            } else if (method == 1) {
                unpackPairs(to);
            } else {
                copy(0, count, to, 0);
            }
        }

        private void copy(int from, int n, Raster to, int place) {
            for (int i = 0; i < n; i++) {
                to.put(place + i, byteAt(from + i));
            }
        }

        private void unpackPairs(Raster to) {
            int place = 0;
            for (int i = 0; i + 1 < count; i += 2) {
                int times = byteAt(i) + 1;
                to.repeat(place, times, byteAt(i + 1));
                place += times;
            }
        }

        private void unpackRuns(Raster to) {
            int place = 0;
            int at = 0;
            while (at < count) {
                int c = byteAt(at);
                at++;
                if (c < 128) {
                    int n = Math.min(c + 1, count - at);
                    copy(at, n, to, place);
                    place += n;
                    at += n;
                } else if (c > 128 && at < count) {
                    to.repeat(place, 257 - c, byteAt(at));
                    place += 257 - c;
                    at++;
                }
            }
        }

        private void unpackChanges(Raster to) {
            int place = 0;
            int at = 0;
            while (at < count) {
                int c = byteAt(at);
                at++;
                place += c % 32;
                boolean more = c % 32 == 31;
                while (more && at < count) {
                    int added = byteAt(at);
                    at++;
                    place += added;
                    more = added == 255;
                }
                int n = Math.min(c / 32 + 1, count - at);
                copy(at, n, to, place);
                place += n;
                at += n;
            }
        }
    }

    /** The raster that is open, or was; one object serves all of them. */
    private static final class Raster {
        final int[] seed = new int[MAX_LENGTH];
        boolean open = false;
        int left = 0;
        int upper = 0;
        int scale = 1;
        // 0 stands for "none" in both.
        int width = 0;
        int height = 0;
        int length = 0;
        int row = 0;

        void begin(int x, int y, int newScale) {
            open = true;
            left = x;
            upper = y;
            scale = newScale;
            row = 0;
            clearSeed();
        }

        void limit(int newWidth, int newHeight) {
            width = newWidth;
            height = newHeight;
            length = newWidth > 0 ? Math.min((newWidth + 7) / 8, MAX_LENGTH) : MAX_LENGTH;
        }

        void end() {
            open = false;
            if (height > 0) {
                row = height;
            }
        }

        void clearSeed() {
            Arrays.fill(seed, 0);
        }

        boolean hasAllRows() {
            return height > 0 && row >= height;
        }

        void pass(int n) {
            row = height > 0 ? Math.min(row + n, height) : row + n;
        }

        int top() {
            return upper + scale * row;
        }

        boolean hasByte(int i) {
            return i >= 0 && i < length && i < seed.length;
        }

        void put(int place, int b) {
            if (hasByte(place)) {
                seed[place] = b;
            }
        }

        void repeat(int place, int times, int b) {
            int end = Math.min(place + times, length);
            for (int i = place; i < end; i++) {
                put(i, b);
            }
        }

        /** Byte i of the row, its dots from WIDTH on white. */
        int shownByte(int i) {
            if (!hasByte(i)) {
                return 0;
            }
            int hidden = width > 0 ? 8 * (i + 1) - width : 0;
            return hidden > 0 ? seed[i] & (255 << Math.min(hidden, 8)) : seed[i];
        }

        /** How many bytes reach to the last one with a black dot. */
        int usedBytes() {
            for (int n = length; n > 0; n--) {
                if (shownByte(n - 1) != 0) {
                    return n;
                }
            }
            return 0;
        }

        void drawOn(Line line) {
            for (int i = 0; i < length; i++) {
                int b = shownByte(i);
                for (int bit = 0; bit < 8 && b != 0; bit++) {
                    if ((b & (128 >> bit)) != 0) {
                        line.blacken(left + scale * (8 * i + bit), scale);
                    }
                }
            }
        }
    }

    /** The dots of the sheet, and the count of what is kept. */
    private static final class Sheet {
        final int across;
        final int down;
        // A line is made when it is first drawn on: most sheets stay mostly white.
        final Line[] lines;
        final Line stripe;
        int keptRows = 0;
        int keptBytes = 0;
        boolean overrun = false;
        int blackDots = 0;

        Sheet(int width, int height) {
            across = sideOf(width);
            down = sideOf(height);
            lines = new Line[down];
            stripe = new Line(across);
        }

        boolean has(int x, int y) {
            return x >= 0 && x < across && y >= 0 && y < down;
        }

        long wordOf(int y, int k) {
            if (y < 0 || y >= lines.length) {
                return 0;
            }
            Line found = lines[y];
            return found == null ? 0 : found.wordAt(k);
        }

        void whiten() {
            for (int y = 0; y < lines.length; y++) {
                if (lines[y] != null) {
                    lines[y].whiten();
                }
            }
            keptRows = 0;
            keptBytes = 0;
            overrun = false;
            blackDots = 0;
        }

        void take(Raster raster) {
            int used = raster.usedBytes();
            if (used == 0) {
                return;
            }
            if (keptRows >= MAX_KEPT_ROWS || used > MAX_KEPT_BYTES - keptBytes) {
                overrun = true;
                return;
            }
            keptRows++;
            keptBytes += used;
            draw(raster);
        }

        private void draw(Raster raster) {
            stripe.whiten();
            raster.drawOn(stripe);
            for (int i = 0; i < raster.scale; i++) {
                drawStripe(raster.top() + i);
            }
        }

        private void drawStripe(int y) {
            if (y < 0 || y >= lines.length) {
                return;
            }
            if (lines[y] == null) {
                lines[y] = new Line(across);
            }
            blackDots += lines[y].merge(stripe);
        }
    }

    /** One line of dots, 64 in a word, the first one highest. */
    private static final class Line {
        final int dots;
        final long[] words;

        Line(int dots) {
            this.dots = Math.max(dots, 0);
            words = new long[(this.dots + 63) / 64];
        }

        static long bitOf(int x) {
            return 1L << (63 - (x & 63));
        }

        long wordAt(int k) {
            return k >= 0 && k < words.length ? words[k] : 0;
        }

        void whiten() {
            Arrays.fill(words, 0L);
        }

        void blacken(int from, int n) {
            int end = Math.min(from + n, dots);
            for (int x = Math.max(from, 0); x < end; x++) {
                int k = x >> 6;
                if (k < words.length) {
                    words[k] |= bitOf(x);
                }
            }
        }

        /** Blackens what is black in the other line; answers how many dots were white before. */
        int merge(Line other) {
            int gained = 0;
            for (int k = 0; k < words.length; k++) {
                long fresh = other.wordAt(k) & ~words[k];
                words[k] |= fresh;
                gained += Long.bitCount(fresh);
            }
            return gained;
        }
    }
}
