import java.util.Arrays;
import java.util.NoSuchElementException;

/** Sixteen files, cut into parts by a rolling sum; parts of the same bytes are kept once and counted. */
public final class CutYard {
    public static final int NONE = -1;

    private static final int FILES = 16;
    private static final int MOST_BYTES = 1500;
    private static final int MOST_PARTS = 400;
    private static final int MOST_BITS = 8;
    private static final int HIGHEST_LEAST = 32;
    private static final int LONGEST_PART = 64;
    private static final int MOST_AT_ONCE = 4;

    private final Cutter cutter = new Cutter();
    private final Stock stock = new Stock();
    private final Content[] files = new Content[FILES];
    private final byte[] hand = new byte[MOST_BYTES];
    private int inHand = 0;

    // Rows of every call, made once: what a run makes is counted.
    private final byte[] work = new byte[MOST_BYTES];
    private final int[] taken = new int[MOST_BYTES];
    private final int[] seen = new int[MOST_PARTS];

    public CutYard() {
        for (int f = 0; f < FILES; f++) {
            files[f] = new Content();
        }
    }

    public void begin(int bits, int least, int most) throws IllegalArgumentException {
        if (bits < 1 || bits > MOST_BITS) {
            throw new IllegalArgumentException("bits must be 1 .. 8");
        }
        if (least < 1 || least > HIGHEST_LEAST) {
            throw new IllegalArgumentException("least must be 1 .. 32");
        }
        if (most < least || most > LONGEST_PART) {
            throw new IllegalArgumentException("most must be least .. 64");
        }
        cutter.setRule(bits, least, most);
        stock.empty();
        for (int f = 0; f < FILES; f++) {
            files[f].empty();
        }
    }

    public int put(int many, int v) throws IllegalArgumentException, UnsupportedOperationException {
        if (many < 1 || many > MOST_AT_ONCE) {
            throw new IllegalArgumentException("many must be 1 .. 4");
        }
        if (inHand + many > MOST_BYTES) {
            throw new UnsupportedOperationException("more than 1500 bytes at hand");
        }
        for (int i = 0; i < many; i++) {
            hand[inHand + i] = (byte) (v >>> (8 * i));
        }
        inHand += many;
        return inHand;
    }

    public int store(int file) throws IndexOutOfBoundsException, UnsupportedOperationException {
        return fillFile(fileAt(file), hand, inHand);
    }

    public int edit(int file, int at, int drop)
            throws IndexOutOfBoundsException, IllegalArgumentException, UnsupportedOperationException {
        Content target = fileAt(file);
        if (at < 0 || at > target.bytes || drop < 0 || drop > target.bytes - at) {
            throw new IllegalArgumentException("the file has no such bytes");
        }
        int length = target.bytes - drop + inHand;
        if (length > MOST_BYTES) {
            throw new UnsupportedOperationException("more than 1500 bytes in a file");
        }
        layOut(target);
        System.arraycopy(work, at + drop, work, at + inHand, target.bytes - at - drop);
        System.arraycopy(hand, 0, work, at, inHand);
        return fillFile(target, work, length);
    }

    public void copy(int from, int to) throws IndexOutOfBoundsException, UnsupportedOperationException {
        Content source = fileAt(from);
        Content target = fileAt(to);
        for (int k = 0; k < source.count; k++) {
            stock.useAgain(source.numbers[k]);
        }
        giveBack(target.numbers, target.count);
        target.become(source.numbers, source.count, source.bytes);
    }

    public int size(int file) throws IndexOutOfBoundsException {
        return fileAt(file).bytes;
    }

    public int get(int file, int k) throws IndexOutOfBoundsException {
        Content content = fileAt(file);
        if (k < 0 || k >= content.bytes) {
            throw new IndexOutOfBoundsException("no such byte");
        }
        int left = k;
        int p = 0;
        while (p < content.count - 1 && left >= stock.lengthOf(content.numbers[p])) {
            left -= stock.lengthOf(content.numbers[p]);
            p++;
        }
        return stock.byteOf(content.numbers[p], left);
    }

    public int parts(int file) throws IndexOutOfBoundsException {
        return fileAt(file).count;
    }

    public int part(int file, int k) throws IndexOutOfBoundsException {
        Content content = fileAt(file);
        if (k < 0 || k >= content.count) {
            throw new IndexOutOfBoundsException("no such part");
        }
        return content.numbers[k];
    }

    public int about(int part, int what) throws NoSuchElementException, IllegalArgumentException {
        if (!stock.has(part)) {
            throw new NoSuchElementException("no such part");
        }
        switch (what) {
            case 0:
                return stock.lengthOf(part);
            case 1:
                return stock.usesOf(part);
            case 2:
                return filesWith(part);
            default:
                throw new IllegalArgumentException("what must be 0 .. 2");
        }
    }

    public int common(int file, int other) throws IndexOutOfBoundsException {
        Content one = fileAt(file);
        Content two = fileAt(other);
        Arrays.fill(seen, 0);
        for (int k = 0; k < two.count; k++) {
            int number = two.numbers[k];
            if (stock.has(number)) {
                seen[number] = 1;
            }
        }
        int bytes = 0;
        for (int k = 0; k < one.count; k++) {
            int number = one.numbers[k];
            if (stock.has(number) && seen[number] == 1) {
                bytes += stock.lengthOf(number);
            }
        }
        return bytes;
    }

    public int all(int what) throws IllegalArgumentException {
        switch (what) {
            case 0:
                return stock.count;
            case 1:
                return stock.bytes;
            case 2:
                return inHand;
            default:
                throw new IllegalArgumentException("what must be 0 .. 2");
        }
    }

    private Content fileAt(int file) {
        if (file < 0 || file >= FILES) {
            throw new IndexOutOfBoundsException("no such file");
        }
        return files[file];
    }

    /** Gives a file the first bytes of a row as its content, and empties the hand. */
    private int fillFile(Content target, byte[] row, int length) {
        int before = stock.count;
        int many = takeParts(row, length);
        if (many == NONE) {
            throw new UnsupportedOperationException("more than 400 parts");
        }
        int fresh = stock.count - before;
        // Only now, so that a part that is in both contents keeps its number.
        giveBack(target.numbers, target.count);
        target.become(taken, many, length);
        inHand = 0;
        return fresh;
    }

    /** Cuts a row and takes its parts, once per use: how many; NONE, with nothing changed, if there are too many. */
    private int takeParts(byte[] row, int length) {
        int many = 0;
        int from = 0;
        while (from < length && many < MOST_BYTES) {
            int to = cutter.endOfPart(row, from, length);
            int number = stock.take(row, from, to);
            if (number == NONE) {
                giveBack(taken, many);
                return NONE;
            }
            taken[many] = number;
            many++;
            from = to;
        }
        return many;
    }

    private void giveBack(int[] numbers, int many) {
        for (int k = 0; k < many; k++) {
            stock.giveBack(numbers[k]);
        }
    }

    /** Writes a file's bytes into the work row. */
    private void layOut(Content content) {
        int at = 0;
        for (int k = 0; k < content.count; k++) {
            at += stock.writeOut(content.numbers[k], work, at);
        }
    }

    private int filesWith(int number) {
        int many = 0;
        for (int f = 0; f < FILES; f++) {
            if (files[f].hasNumber(number)) {
                many++;
            }
        }
        return many;
    }

    /** The rule by which a row of bytes is cut. */
    private static final class Cutter {
        private static final int WINDOW = 8;
        private static final int FACTOR = -1640531527;

        private int mask = 15;
        private int least = 4;
        private int most = 32;

        void setRule(int newBits, int newLeast, int newMost) {
            mask = (1 << newBits) - 1;
            least = newLeast;
            most = newMost;
        }

        /** Where the part ends that begins at a place before the row's end: behind its last byte. */
        int endOfPart(byte[] row, int from, int rowEnd) {
            int end = Math.min(rowEnd, from + most);
            int sum = 0;
            for (int i = from; i < end; i++) {
                sum = turned(sum, 1) ^ mark(row[i]);
                if (i - from >= WINDOW) {
                    // The byte that leaves the window has been turned once for each byte in it.
                    sum ^= turned(mark(row[i - WINDOW]), WINDOW);
                }
                if (i - from + 1 >= least && (sum & mask) == 0) {
                    return i + 1;
                }
            }
            return end;
        }

        private static int mark(byte b) {
            int x = ((b & 255) + 1) * FACTOR;
            return x ^ (x >>> 15);
        }

        private static int turned(int x, int by) {
            return (x << by) | (x >>> (32 - by));
        }
    }

    /** What a file is: the numbers of its parts, in their order, and how many bytes they have. */
    private static final class Content {
        private static final int FIRST_ROOM = 16;

        // Grows with need: most files stay far below 1500 parts.
        private int[] numbers = new int[FIRST_ROOM];
        private int count = 0;
        private int bytes = 0;

        void empty() {
            count = 0;
            bytes = 0;
        }

        void become(int[] newNumbers, int newCount, int newBytes) {
            if (newCount > numbers.length) {
                numbers = new int[Math.min(MOST_BYTES, Math.max(newCount, 2 * numbers.length))];
            }
            System.arraycopy(newNumbers, 0, numbers, 0, newCount);
            count = newCount;
            bytes = newBytes;
        }

        boolean hasNumber(int number) {
            for (int k = 0; k < count; k++) {
                if (numbers[k] == number) {
                    return true;
                }
            }
            return false;
        }
    }

    /** The parts that are in files, each once, found by their bytes through chains of numbers. */
    private static final class Stock {
        private static final int CHAINS = 512;
        private static final int FIRST_ROOM = 16;

        private final int[] uses = new int[MOST_PARTS];
        private final int[] lengths = new int[MOST_PARTS];
        private final int[] hashes = new int[MOST_PARTS];
        private final int[] next = new int[MOST_PARTS];
        private final int[] heads = new int[CHAINS];
        // The bytes of part n begin at n * LONGEST_PART; grows with need.
        private byte[] room = new byte[FIRST_ROOM * LONGEST_PART];
        // No number below it is free.
        private int lowest = 0;
        private int count = 0;
        private int bytes = 0;

        Stock() {
            Arrays.fill(heads, NONE);
        }

        void empty() {
            Arrays.fill(uses, 0);
            Arrays.fill(heads, NONE);
            lowest = 0;
            count = 0;
            bytes = 0;
        }

        boolean has(int number) {
            return number >= 0 && number < MOST_PARTS && uses[number] > 0;
        }

        int usesOf(int number) {
            return has(number) ? uses[number] : 0;
        }

        int lengthOf(int number) {
            return has(number) ? lengths[number] : 0;
        }

        int byteOf(int number, int k) {
            if (k < 0 || k >= lengthOf(number)) {
                return NONE;
            }
            return room[number * LONGEST_PART + k] & 255;
        }

        /** Writes a part's bytes into a row at a place: how many. */
        int writeOut(int number, byte[] row, int at) {
            int length = lengthOf(number);
            if (length == 0 || at < 0 || length > row.length - at) {
                return 0;
            }
            System.arraycopy(room, number * LONGEST_PART, row, at, length);
            return length;
        }

        void useAgain(int number) {
            if (has(number)) {
                uses[number]++;
            }
        }

        /** The number of the part with these bytes, with one use more; NONE if it is new and no number is free. */
        int take(byte[] row, int from, int to) {
            int hash = hashOf(row, from, to);
            int number = find(hash, row, from, to - from);
            if (number == NONE) {
                return add(hash, row, from, to - from);
            }
            useAgain(number);
            return number;
        }

        void giveBack(int number) {
            if (!has(number)) {
                return;
            }
            uses[number]--;
            if (uses[number] == 0) {
                unchain(number);
                lowest = Math.min(lowest, number);
                count--;
                bytes -= lengths[number];
            }
        }

        private static int hashOf(byte[] row, int from, int to) {
            int hash = 0;
            for (int i = from; i < to; i++) {
                hash = hash * 31 + row[i];
            }
            return hash ^ (hash >>> 9);
        }

        private int find(int hash, byte[] row, int from, int length) {
            int number = heads[hash & (CHAINS - 1)];
            for (int n = 0; n < MOST_PARTS && has(number); n++) {
                if (hashes[number] == hash && lengths[number] == length && sameBytes(number, row, from)) {
                    return number;
                }
                number = next[number];
            }
            return NONE;
        }

        private boolean sameBytes(int number, byte[] row, int from) {
            int start = number * LONGEST_PART;
            for (int i = 0; i < lengths[number]; i++) {
                if (room[start + i] != row[from + i]) {
                    return false;
                }
            }
            return true;
        }

        private int add(int hash, byte[] row, int from, int length) {
            int number = leastFree();
            if (number == NONE) {
                return NONE;
            }
            makeRoomFor(number);
            System.arraycopy(row, from, room, number * LONGEST_PART, length);
            uses[number] = 1;
            lengths[number] = length;
            hashes[number] = hash;
            next[number] = heads[hash & (CHAINS - 1)];
            heads[hash & (CHAINS - 1)] = number;
            count++;
            bytes += length;
            return number;
        }

        private int leastFree() {
            while (lowest < MOST_PARTS && uses[lowest] > 0) {
                lowest++;
            }
            return lowest < MOST_PARTS ? lowest : NONE;
        }

        private void makeRoomFor(int number) {
            int need = (number + 1) * LONGEST_PART;
            if (need > room.length) {
                room = Arrays.copyOf(room, Math.min(MOST_PARTS * LONGEST_PART, Math.max(need, 2 * room.length)));
            }
        }

        private void unchain(int number) {
            int chain = hashes[number] & (CHAINS - 1);
            if (heads[chain] == number) {
                heads[chain] = next[number];
                return;
            }
            int before = heads[chain];
            for (int n = 0; n < MOST_PARTS && has(before); n++) {
                if (next[before] == number) {
                    next[before] = next[number];
                    return;
                }
                before = next[before];
            }
        }
    }
}
