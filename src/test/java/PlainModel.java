import java.util.ArrayList;
import java.util.List;

/**
 * The document once more, in another form: kept rows are drawn anew for each question, bytes are taken from a list.
 * It is slow and makes many objects; RunsTest compares the class with it. An answer that is an exception is told as
 * one of the constants.
 */
final class PlainModel {
    static final long STATE = Long.MIN_VALUE + 1;
    static final long ARGUMENT = Long.MIN_VALUE + 2;
    static final long INDEX = Long.MIN_VALUE + 3;

    private record Kept(int x, int y, int scale, List<Boolean> dots) { }

    private final int w;
    private final int h;
    private final int dpi;
    private int resolution = 75;
    private int method = 0;
    private int nextWidth = 0;
    private int nextHeight = 0;
    private boolean open = false;
    private int x;
    private int y;
    private int width;
    private int height;
    private int scale;
    private int row;
    private List<Integer> seed = new ArrayList<>();
    private final List<Integer> coming = new ArrayList<>();
    private final List<Kept> kept = new ArrayList<>();
    private int keptBytes = 0;
    private boolean overrun = false;
    private boolean[][] drawn;

    PlainModel(int width, int height, int dpi) {
        w = width < 1 ? 1 : width > 5100 ? 5100 : width;
        h = height < 1 ? 1 : height > 5100 ? 5100 : height;
        this.dpi = dpi < 150 ? 75 : dpi < 300 ? 150 : 300;
    }

    long resolution(int r) {
        if (open || !List.of(75, 100, 150, 300).contains(r)) {
            return 0;
        }
        resolution = r;
        return 1;
    }

    long size(boolean high, int n) {
        if (n < 0 || n > 5119) {
            return 0;
        }
        nextHeight = high ? n : nextHeight;
        nextWidth = high ? nextWidth : n;
        return 1;
    }

    long method(int m) {
        if (m < 0 || m > 3) {
            return 0;
        }
        method = m;
        return 1;
    }

    long open(int newX, int newY) {
        if (open || Math.abs((long) newX) > 10000 || Math.abs((long) newY) > 10000) {
            return 0;
        }
        open = true;
        x = newX;
        y = newY;
        width = nextWidth;
        height = nextHeight;
        scale = Math.max(1, dpi / resolution);
        row = 0;
        seed = zeros();
        return 1;
    }

    long data(long part, int n) {
        if (n < 1 || n > 8 || coming.size() + n > 4096) {
            return 0;
        }
        for (int i = 8 - n; i < 8; i++) {
            coming.add((int) ((part << (8 * i)) >>> 56));
        }
        return 1;
    }

    long row() {
        if (!open) {
            return STATE;
        }
        List<Integer> bytes = new ArrayList<>(coming);
        coming.clear();
        if (height != 0 && row == height) {
            return -1;
        }
        seed = unpacked(bytes);
        keep();
        row++;
        return row - 1;
    }

    long skip(int n) {
        if (n < 0 || n > 10000) {
            return ARGUMENT;
        }
        if (!open) {
            return STATE;
        }
        for (int i = 0; i < n && (height == 0 || row < height); i++) {
            row++;
        }
        seed = zeros();
        return row;
    }

    long shut() {
        if (!open) {
            return STATE;
        }
        open = false;
        method = 0;
        return y + scale * (height == 0 ? row : height);
    }

    long eject() {
        kept.clear();
        keptBytes = 0;
        overrun = false;
        drawn = null;
        return 0;
    }

    long line(int atY, int k) {
        long word = 0;
        for (long dot = 64L * k; dot < 64L * k + 64; dot++) {
            boolean there = dot >= 0 && dot < w && atY >= 0 && atY < h;
            word = 2 * word + (there && sheet()[atY][(int) dot] ? 1 : 0);
        }
        return word;
    }

    long black(int atX, int atY) {
        if (atX < 0 || atX >= w || atY < 0 || atY >= h) {
            return INDEX;
        }
        return sheet()[atY][atX] ? 1 : 0;
    }

    long seed(int i) {
        return open && i >= 0 && i < seed.size() ? seed.get(i) : -1;
    }

    long look(int which) {
        int[] told = {w, h, dpi, resolution, method, open ? 1 : 0, open ? row : -1, open ? seed.size() : -1,
            open ? scale : -1, coming.size(), kept.size(), keptBytes, overrun ? 1 : 0, 0};
        if (which == 13) {
            return blackDots();
        }
        return which >= 0 && which < told.length ? told[which] : -1;
    }

    private List<Integer> zeros() {
        List<Integer> made = new ArrayList<>();
        int length = width == 0 ? 640 : width / 8 + (width % 8 == 0 ? 0 : 1);
        while (made.size() < length) {
            made.add(0);
        }
        return made;
    }

    private List<Integer> unpacked(List<Integer> bytes) {
        if (method == 3) {
            return changed(bytes);
        }
        List<Integer> out = new ArrayList<>();
        if (method == 0) {
            out.addAll(bytes);
        }
        while (method == 1 && bytes.size() >= 2) {
            addTimes(out, bytes.remove(0) + 1, bytes.remove(0));
        }
        while (method == 2 && !bytes.isEmpty()) {
            int c = bytes.remove(0);
            for (int i = 0; c <= 127 && i <= c && !bytes.isEmpty(); i++) {
                out.add(bytes.remove(0));
            }
            if (c > 128 && !bytes.isEmpty()) {
                addTimes(out, 257 - c, bytes.remove(0));
            }
        }
        addTimes(out, 640, 0);
        return new ArrayList<>(out.subList(0, zeros().size()));
    }

    private static void addTimes(List<Integer> out, int times, int b) {
        for (int i = 0; i < times; i++) {
            out.add(b);
        }
    }

    private List<Integer> changed(List<Integer> bytes) {
        List<Integer> out = new ArrayList<>(seed);
        int place = 0;
        while (!bytes.isEmpty()) {
            int c = bytes.remove(0);
            int last = c % 32 == 31 ? 255 : 0;
            place += c % 32;
            while (last == 255) {
                if (bytes.isEmpty()) {
                    return out;
                }
                last = bytes.remove(0);
                place += last;
            }
            for (int i = 0; i < c / 32 + 1 && !bytes.isEmpty(); i++) {
                int b = bytes.remove(0);
                if (place < out.size()) {
                    out.set(place, b);
                }
                place++;
            }
        }
        return out;
    }

    private void keep() {
        List<Boolean> dots = new ArrayList<>();
        int lastBlack = -1;
        for (int k = 0; k < 8 * seed.size(); k++) {
            boolean isBlack = (width == 0 || k < width) && (seed.get(k / 8) >> (7 - k % 8)) % 2 == 1;
            dots.add(isBlack);
            lastBlack = isBlack ? k : lastBlack;
        }
        if (lastBlack < 0) {
            return;
        }
        int bytes = lastBlack / 8 + 1;
        if (kept.size() == 4096 || keptBytes + bytes > 65536) {
            overrun = true;
            return;
        }
        kept.add(new Kept(x, y + scale * row, scale, dots));
        keptBytes += bytes;
        drawn = null;
    }

    private boolean[][] sheet() {
        if (drawn == null) {
            drawn = new boolean[h][w];
            for (Kept one : kept) {
                draw(one);
            }
        }
        return drawn;
    }

    private void draw(Kept one) {
        for (int atY = Math.max(0, one.y); atY < Math.min(h, one.y + one.scale); atY++) {
            for (int atX = Math.max(0, one.x); atX < w; atX++) {
                int k = (atX - one.x) / one.scale;
                drawn[atY][atX] |= k < one.dots.size() && one.dots.get(k);
            }
        }
    }

    private long blackDots() {
        long n = 0;
        for (boolean[] atY : sheet()) {
            for (boolean dot : atY) {
                n += dot ? 1 : 0;
            }
        }
        return n;
    }
}
