import java.util.Arrays;
import java.util.NoSuchElementException;

/**
 * The sentences of 'What it is', 'The public face' and 'Terms' that name a boundary case: each is quoted above the one
 * test that is its own. The written-out lists come from a separate program over the document's words.
 */
public final class TermsTest {
    private static final Class<UnsupportedOperationException> LIMIT = UnsupportedOperationException.class;

    // Rows of this byte alone: their sum is odd, however long they are, so that it never says so.
    private static final int NEVER = 88;
    // Rows of this byte alone, eight or more: the lowest eight bits of their sum are 0.
    private static final int FROM_EIGHT_ON = 92;

    private final Check check = new Check();

    private TermsTest() {
    }

    public static void main(String[] args) {
        TermsTest test = new TermsTest();
        test.asIfCutAnew();
        test.calls512();
        test.bytesAre0To255();
        test.markWraps();
        test.zerosComeIn();
        test.lastEight();
        test.allIfFewer();
        test.turnedLeft();
        test.lowestBits();
        test.atLeastLeast();
        test.endsWithMost();
        test.leastMayBeMost();
        test.endsWithRow();
        test.sumOfThePart();
        test.sixteenFiles();
        test.upTo1500();
        test.allEmptyAtFirst();
        test.sameBytesAreOne();
        test.otherBytesAreNot();
        test.leastFreeNumber();
        test.freeAgain();
        test.atMost400();
        test.usesCountEachTime();
        test.losesOldBehindNew();
        test.keepsItsNumber();
        test.none();
        test.check.end();
    }

    // "a file that is edited is as if it had been cut anew"
    private void asIfCutAnew() {
        int[] row = Yards.squares(100);
        for (int at = 0; at <= 100; at++) {
            int drop = Math.min(at % 7, 100 - at);
            int[] anew = new int[100 - drop + 3];
            System.arraycopy(row, 0, anew, 0, at);
            System.arraycopy(row, at + drop, anew, at + 3, 100 - at - drop);
            Arrays.fill(anew, at, at + 3, at);
            CutYard x = new CutYard();
            Yards.give(x, row);
            x.store(0);
            Yards.give(x, at, at, at);
            x.edit(0, at, drop);
            Yards.give(x, anew);
            check.due("edit at " + at + " gives no part but those of a store", x.store(1), 0);
            check.due("edit at " + at + " gives the parts of a store", Yards.numbers(x, 0), Yards.numbers(x, 1));
            check.due("edit at " + at + " is cut", Yards.lengths(x, 0), cutBy(4, 4, 32, anew));
        }
    }

    // "An object is used for at most 512 calls after it has been made"
    private void calls512() {
        CutYard x = new CutYard();
        for (int call = 1; call <= 512; call++) {
            check.due("call " + call + " is a put", x.put(1, call), call);
        }
        CutYard y = new CutYard();
        for (int call = 1; call <= 375; call++) {
            y.put(4, call);
        }
        y.store(15);
        for (int call = 377; call <= 511; call++) {
            y.edit(15, call, 1);
        }
        check.due("call 512 is a question", y.size(15), 1500 - 135);
    }

    // "BYTES are 0 .. 255."
    private void bytesAre0To255() {
        CutYard x = new CutYard();
        for (int b = 0; b < 256; b += 4) {
            x.put(4, b | (b + 1) << 8 | (b + 2) << 16 | (b + 3) << 24);
        }
        x.store(0);
        for (int b = 0; b < 256; b++) {
            check.due("byte " + b, x.get(0, b), b);
        }
        x.put(1, -1);
        x.put(1, 256);
        x.put(4, Integer.MIN_VALUE);
        x.store(1);
        check.due("the lowest bytes of -1, 256, and all of the least int", Yards.bytes(x, 1), "255 0 0 0 0 128");
    }

    // "x being (b + 1) times -1640531527 (an int, it wraps)"
    private void markWraps() {
        check.due("bytes that end a part alone, by 8 bits", endingBytes(8, 0, 0), "120 241");
        check.due("by 6 bits", endingBytes(6, 0, 0), "69 120 190 241");
        check.due("by 5 bits", endingBytes(5, 0, 0), "34 69 104 120 155 190 225 241");
        check.due("by 4 bits", endingBytes(4, 0, 0), "26 34 61 69 77 104 112 120 147 155 190 198 225 233 241");
    }

    // "x xor x shifted right by 15 (zeros come in)"
    private void zerosComeIn() {
        // The marks that are turned bring their highest bits down, where a sign that came in would be seen.
        check.due("bytes before a 0", endingBytes(5, 0, 0, 0), "81 84 86 89 94 97 248 251 253");
        check.due("bytes before a 1", endingBytes(5, 0, 0, 1), "0 2 8 10 16 18 165 167 173 175");
        check.due("bytes before a 7", endingBytes(5, 0, 0, 7), "5 7 13 15 164 170 172 178 180");
        check.due("bytes before a 200", endingBytes(5, 0, 0, 200), "25 27 33 35 37 142 148 150 156 158");
    }

    // "The SUM of a row of bytes: of its last eight"
    private void lastEight() {
        int[] row = new int[20];
        for (int i = 0; i < 20; i++) {
            row[i] = (i * 37 + 11) % 256;
        }
        check.due("the eighth from behind counts", endingBytes(4, 12, row),
            "2 20 38 56 74 91 92 109 110 127 145 163 181 199 217 235 253");
        check.due("the ninth from behind doesn't", endingBytes(4, 11, row), upTo255());
        check.due("the first of twenty doesn't", endingBytes(4, 0, row), upTo255());
        // Nine bytes: the first one has just left.
        check.due("the first of nine doesn't", endingBytes(8, 0, 5, 2, 2, 3, 4, 5, 6, 7, 232), upTo255());
        check.due("the second of nine does", endingBytes(8, 1, 5, 2, 2, 3, 4, 5, 6, 7, 232), "2 91");
    }

    // "(or all, if there are fewer)"
    private void allIfFewer() {
        String[] due = {"34 69 104 120 155 190 225 241", "83 91 96 99 246 249 254", "27 37 142 150 158 189 197",
            "26 34 73 102 149 157 225", "8 16 50 84 139 173 207 249", "11 45 66 100 134 155 189 244",
            "10 27 44 99 116 171 188 243"};
        for (int many = 1; many <= 7; many++) {
            int[] row = new int[many];
            for (int i = 1; i < many; i++) {
                row[i] = many + 1 - i;
            }
            check.due("the first of " + many, endingBytes(5, 0, row), due[many - 1]);
        }
    }

    // "from the last one back, the marks turned left by 0, 1, 2, .. bits, together by xor"
    private void turnedLeft() {
        String[] due = {"34 104 155 225", "63 75 188 196", "185 193 201", "6 14 19 163 171", "9 85 98 174 250",
            "10 44 99 209", "42 97 186 241", "34 106 178 250"};
        for (int back = 0; back < 8; back++) {
            check.due("turned by " + back, endingBytes(6, 7 - back, 9, 8, 7, 6, 5, 4, 3, 2), due[back]);
        }
    }

    // "by BITS (1 .. 8)" and "the lowest BITS bits of the sum of its bytes so far are 0"
    private void lowestBits() {
        String[] due = {"2 7 3 1 1 1 2 2 4 1", "2 7 4 1 1 2 8 3 4 7 1", "2 10 35 9 4", "2 10 50 51 7",
            "2 10 50 52 3 3", "2 10 50 64 64 42 29 64 62 64 1 64 64 20", "2 10 50 64 64 64 64 14 55 64 1 64 64 20",
            "2 64 64 64 64 64 10 64 64 64 64 12"};
        int[] many = {24, 40, 60, 120, 120, 600, 600, 600};
        for (int bits = 1; bits <= 8; bits++) {
            int[] row = new int[many[bits - 1]];
            for (int i = 0; i < row.length; i++) {
                row[i] = (i * i * i + i / 3) % 256;
            }
            check.due("cut by " + bits + " bits", cutBy(bits, 1, 64, row), due[bits - 1]);
        }
    }

    // "LEAST (1 .. 32)" and "it ends behind a byte if it has at least LEAST bytes and .."
    private void atLeastLeast() {
        for (int least = 8; least <= 32; least++) {
            check.due("the sum says so from eight on, least " + least,
                cutBy(8, least, 64, Yards.same(3 * least, FROM_EIGHT_ON)), least + " " + least + " " + least);
        }
        // Of n bytes of the kind, does the sum say so by three bits? For n 1 .. 8; longer rows are as eight.
        sumSays(0, "01000101");
        sumSays(34, "10000111");
        sumSays(124, "00001111");
        sumSays(164, "01010100");
        sumSays(190, "11111000");
    }

    private void sumSays(int b, String says) {
        for (int least = 1; least <= 32; least++) {
            int due = least;
            while (due < 40 && says.charAt(Math.min(due, 8) - 1) == '0') {
                due++;
            }
            String lengths = cutBy(3, least, 40, Yards.same(41, b));
            check.due("rows of " + b + ", least " + least, lengths.substring(0, lengths.indexOf(' ')), "" + due);
        }
    }

    // "or if it has MOST bytes", "MOST (least .. 64)"
    private void endsWithMost() {
        for (int most = 1; most <= 64; most++) {
            check.due("the sum never says so, most " + most, cutBy(1, 1, most, Yards.same(2 * most + 1, NEVER)),
                most == 1 ? "1 1 1" : most + " " + most + " 1");
        }
    }

    // "MOST (least .. 64)": at its least
    private void leastMayBeMost() {
        for (int least = 1; least <= 32; least++) {
            check.due("least and most " + least, cutBy(1, least, least, Yards.same(2 * least, FROM_EIGHT_ON)),
                least + " " + least);
        }
    }

    // "or with the row"
    private void endsWithRow() {
        check.due("a row of none has no part", cutBy(8, 32, 64), "");
        check.due("a row of one", cutBy(8, 32, 64, Yards.same(1, NEVER)), "1");
        check.due("a row below least", cutBy(8, 32, 64, Yards.same(31, FROM_EIGHT_ON)), "31");
        check.due("a row of least", cutBy(8, 32, 64, Yards.same(32, FROM_EIGHT_ON)), "32");
        check.due("a row of least and one", cutBy(8, 32, 64, Yards.same(33, FROM_EIGHT_ON)), "32 1");
        check.due("a row below most", cutBy(8, 32, 64, Yards.same(63, NEVER)), "63");
        check.due("a row of most", cutBy(8, 32, 64, Yards.same(64, NEVER)), "64");
        check.due("a row of most and one", cutBy(8, 32, 64, Yards.same(65, NEVER)), "64 1");
        check.due("a row of twice most", cutBy(8, 32, 64, Yards.same(128, NEVER)), "64 64");
    }

    // "the sum of its bytes so far": the part's, not the row's
    private void sumOfThePart() {
        check.due("each alone", cutBy(8, 1, 64, 120, 241, 120, 241, 120), "1 1 1 1 1");
        check.due("each alone behind a part that most ends", cutBy(8, 1, 2, NEVER, NEVER, 120, 241), "2 1 1");
        int[] across = Yards.same(12, FROM_EIGHT_ON);
        for (int i : new int[] {0, 1, 10, 11}) {
            across[i] = NEVER;
        }
        check.due("eight that say so, but lie in two parts", cutBy(8, 1, 6, across), "6 6");
    }

    // "There are sixteen FILES, 0 .. 15"
    private void sixteenFiles() {
        CutYard x = new CutYard();
        for (int f = 0; f < 16; f++) {
            Yards.give(x, Yards.same(f + 1, f));
            x.store(f);
        }
        for (int f = 0; f < 16; f++) {
            check.due("file " + f + ": size", x.size(f), f + 1);
            check.due("file " + f + ": last byte", x.get(f, f), f);
        }
        check.refused("no file 16", IndexOutOfBoundsException.class, () -> x.size(16));
        check.refused("no file -1", IndexOutOfBoundsException.class, () -> x.size(-1));
    }

    // "each a row of up to 1500 bytes"
    private void upTo1500() {
        CutYard x = new CutYard();
        Yards.give(x, Yards.same(1500, 3));
        x.store(0);
        check.due("a file of 1500", x.size(0), 1500);
        check.due("the last of 1500", x.get(0, 1499), 3);
        x.put(1, 4);
        check.refused("a file of 1501", LIMIT, () -> x.edit(0, 1500, 0));
        x.edit(0, 1499, 1);
        check.due("1500 again", x.size(0), 1500);
        check.due("the last of 1500, changed", x.get(0, 1499), 4);
    }

    // "all empty at first"
    private void allEmptyAtFirst() {
        CutYard x = new CutYard();
        for (int f = 0; f < 16; f++) {
            int file = f;
            check.due("at first: size", x.size(f), 0);
            check.due("at first: parts", x.parts(f), 0);
            check.refused("at first: byte", IndexOutOfBoundsException.class, () -> x.get(file, 0));
        }
    }

    // "Parts of the same bytes are ONE"
    private void sameBytesAreOne() {
        CutYard x = Yards.ofPairs();
        Yards.give(x, 1, 2, 1, 2);
        check.due("one, in one file", x.store(0), 1);
        check.due("one, in one file: numbers", Yards.numbers(x, 0), "0 0");
        Yards.give(x, 3, 4, 1, 2);
        check.due("one, in two files", x.store(1), 1);
        check.due("one, in two files: numbers", Yards.numbers(x, 1), "1 0");
        x.put(2, 0x0201);
        check.due("one, by edit", x.edit(2, 0, 0), 0);
        check.due("one, by edit: numbers", Yards.numbers(x, 2), "0");
        check.due("two parts in all", x.all(0), 2);

        CutYard y = Yards.ruled(8, 32, 64);
        Yards.give(y, Yards.same(192, NEVER));
        check.due("three of the longest are one", y.store(0), 1);
        check.due("the longest: bytes in all", y.all(1), 64);
    }

    // "Parts of the same bytes are ONE": and those of other bytes are not
    private void otherBytesAreNot() {
        int[][] rows = {{0}, {0, 0}, {0, 0, 0}, {1, 0}, {0, 31}, {0, 1}, {1, 0, 0}, {0, 31, 0}, {0, 30, 31}, {255},
            {255, 255}, {127}, {128}};
        CutYard x = Yards.ruled(8, 3, 3);
        for (int i = 0; i < rows.length; i++) {
            Yards.give(x, rows[i]);
            check.due("another part", x.store(i), 1);
            check.due("another number", Yards.numbers(x, i), "" + i);
        }
        CutYard y = Yards.ruled(8, 32, 64);
        for (int f = 0; f < 3; f++) {
            int[] row = Yards.same(64, NEVER);
            row[f == 0 ? 0 : f == 1 ? 30 : 63] = NEVER + 2;
            Yards.give(y, row);
            y.store(f);
        }
        check.due("long parts that one byte parts", y.common(0, 1) + y.common(1, 2) + y.common(2, 0), 0);
    }

    // "with a NUMBER: the least one that is free when it comes first"
    private void leastFreeNumber() {
        CutYard x = Yards.ofPairs();
        Yards.give(x, Yards.pairs(0, 5));
        x.store(0);
        check.due("from 0 on, as they come", Yards.numbers(x, 0), "0 1 2 3 4");
        x.edit(0, 2, 2);
        x.edit(0, 4, 2);
        check.due("1 and 3 have left", Yards.numbers(x, 0), "0 2 4");
        Yards.give(x, Yards.pairs(10, 13));
        x.store(1);
        check.due("the gaps first, the least before", Yards.numbers(x, 1), "1 3 5");
        x.edit(0, 0, 2);
        Yards.give(x, Yards.pairs(20, 21));
        x.store(2);
        check.due("0 again", Yards.numbers(x, 2), "0");
    }

    // "it is free again when no file has the part any more"
    private void freeAgain() {
        CutYard x = Yards.ofPairs();
        Yards.give(x, 7, 7, 7, 7);
        x.store(0);
        x.copy(0, 1);
        x.edit(0, 0, 2);
        check.due("left once of two in a file", x.about(0, 1), 3);
        x.store(0);
        check.due("left by a file, not by the other", x.about(0, 1), 2);
        Yards.give(x, 8, 8);
        x.store(2);
        check.due("not free as long as a file has it", Yards.numbers(x, 2), "1");
        x.edit(1, 0, 2);
        Yards.give(x, 9, 9);
        x.store(3);
        check.due("not free as long as a file has it once", Yards.numbers(x, 3), "2");
        x.store(1);
        check.refused("free", NoSuchElementException.class, () -> x.about(0, 0));
        Yards.give(x, 6, 6);
        x.store(4);
        check.due("free and taken by another", Yards.numbers(x, 4), "0");
        Yards.give(x, 7, 7);
        check.due("the old bytes are new", x.store(5), 1);
        check.due("and have another number", Yards.numbers(x, 5), "3");
    }

    // "There are at most 400."
    private void atMost400() {
        CutYard x = Yards.ofPairs();
        Yards.give(x, Yards.pairs(0, 400));
        check.due("400 parts", x.store(0), 400);
        check.due("400 parts in all", x.all(0), 400);
        check.due("the last number", x.part(0, 399), 399);
        check.due("the last one's bytes", x.get(0, 798) + " " + x.get(0, 799), "199 201");
        Yards.give(x, Yards.pairs(400, 401));
        check.refused("a part more", LIMIT, () -> x.store(1));
        check.refused("a part more, by edit", LIMIT, () -> x.edit(1, 0, 0));
        x.begin(8, 2, 2);
        check.due("room again", x.store(1), 1);
    }

    // "A part's USES: as often as it is in files."
    private void usesCountEachTime() {
        CutYard x = Yards.ofPairs();
        Yards.give(x, 7, 7, 8, 8, 7, 7);
        x.store(0);
        check.due("twice in a file", x.about(0, 1), 2);
        check.due("once in a file", x.about(1, 1), 1);
        for (int f = 1; f < 16; f++) {
            x.copy(0, f);
        }
        check.due("twice in sixteen", x.about(0, 1), 32);
        check.due("once in sixteen", x.about(1, 1), 16);
        x.store(9);
        check.due("twice in fifteen", x.about(0, 1), 30);

        CutYard y = Yards.ruled(1, 1, 1);
        Yards.give(y, Yards.same(1500, 5));
        y.store(0);
        for (int f = 1; f < 16; f++) {
            y.copy(0, f);
        }
        check.due("as often as can be", y.about(0, 1), 24000);
    }

    // "A file that is edited loses its old parts behind getting the new ones"
    private void losesOldBehindNew() {
        CutYard x = Yards.ofPairs();
        Yards.give(x, Yards.pairs(0, 3));
        x.store(0);
        Yards.give(x, Yards.pairs(10, 13));
        x.edit(0, 0, 6);
        check.due("the old numbers were not free yet", Yards.numbers(x, 0), "3 4 5");
        Yards.give(x, Yards.pairs(20, 23));
        x.store(0);
        check.due("they are behind it", Yards.numbers(x, 0), "0 1 2");
    }

    // "(what is in both keeps its number)"
    private void keepsItsNumber() {
        CutYard x = Yards.ofPairs();
        Yards.give(x, Yards.pairs(0, 4));
        x.store(0);
        Yards.give(x, Yards.pairs(9, 10));
        check.due("one is new", x.edit(0, 0, 2), 1);
        check.due("the others keep theirs", Yards.numbers(x, 0), "4 1 2 3");
        x.edit(0, 2, 2);
        check.due("those behind keep theirs", Yards.numbers(x, 0), "4 2 3");
        Yards.give(x, Yards.pairs(3, 4));
        x.edit(0, 0, 6);
        check.due("the last one keeps its own", Yards.numbers(x, 0), "3");
    }

    // "NONE = -1: There is none."
    private void none() {
        check.due("NONE", CutYard.NONE, -1);
        check.refused("there is no part NONE", NoSuchElementException.class,
            () -> new CutYard().about(CutYard.NONE, 0));
    }

    private static String cutBy(int bits, int least, int most, int... row) {
        CutYard x = Yards.ruled(bits, least, most);
        Yards.give(x, row);
        x.store(0);
        return Yards.lengths(x, 0);
    }

    /** The bytes that, at a place of a row, make a part end behind the row's last byte, and not before. */
    private static String endingBytes(int bits, int place, int... row) {
        StringBuilder text = new StringBuilder();
        int[] longer = Arrays.copyOf(row, row.length + 1);
        for (int b = 0; b < 256; b++) {
            longer[place] = b;
            CutYard x = Yards.ruled(bits, row.length, 64);
            Yards.give(x, longer);
            x.store(0);
            if (x.about(x.part(0, 0), 0) == row.length) {
                text.append(text.length() == 0 ? "" : " ").append(b);
            }
        }
        return text.toString();
    }

    private static String upTo255() {
        StringBuilder text = new StringBuilder("0");
        for (int b = 1; b < 256; b++) {
            text.append(' ').append(b);
        }
        return text.toString();
    }
}
