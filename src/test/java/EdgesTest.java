import java.util.NoSuchElementException;
import java.util.function.IntFunction;

/** The sentences of promises 1 to 13 that name a boundary case: each is quoted above the one test that is its own. */
public final class EdgesTest {
    private static final Class<IllegalArgumentException> ARGUMENT = IllegalArgumentException.class;
    private static final Class<IndexOutOfBoundsException> INDEX = IndexOutOfBoundsException.class;
    private static final Class<UnsupportedOperationException> LIMIT = UnsupportedOperationException.class;
    private static final Class<NoSuchElementException> NO_PART = NoSuchElementException.class;
    private static final int LOWEST = Integer.MIN_VALUE;
    private static final int HIGHEST = Integer.MAX_VALUE;
    // Rows of this byte alone: the sum never says so.
    private static final int NEVER = 88;

    private final Check check = new Check();

    private EdgesTest() {
    }

    public static void main(String[] args) {
        EdgesTest test = new EdgesTest();
        test.newRule();
        test.newFilesAreEmpty();
        test.newHandIsEmpty();
        test.beginCutsFromNowOn();
        test.beginEmptiesFiles();
        test.beginLeavesTheHand();
        test.beginRefuses();
        test.putOneToFour();
        test.putTellsHowMany();
        test.putRefusesMany();
        test.putRefusesOver1500();
        test.storeBecomesTheHand();
        test.storeEmptiesTheHand();
        test.storeCountsNewOnes();
        test.storeNeedsAFile();
        test.storeRefusesOver400();
        test.storeCountsOldOnes();
        test.editComesIn();
        test.editDrops();
        test.editEmptiesTheHand();
        test.editCountsNewOnes();
        test.editNeedsAFile();
        test.editNeedsItsBytes();
        test.editRefusesOver1500();
        test.editRefusesOver400();
        test.editOrderOfRefusals();
        test.copyBecomes();
        test.copyOfItself();
        test.copyNeedsBothFiles();
        test.copyIsNeverFull();
        test.sizeNeedsAFile();
        test.getFirstAndLast();
        test.getNeedsAFileAndByte();
        test.partsNoneToMost();
        test.partsNeedsAFile();
        test.partFirstAndLast();
        test.partNeedsAFileAndPart();
        test.aboutLengths();
        test.aboutUses();
        test.aboutFiles();
        test.aboutNeedsAPart();
        test.aboutRefusesWhat();
        test.commonNoneToAll();
        test.commonCountsBytesOfTheFirst();
        test.commonNeedsBothFiles();
        test.allParts();
        test.allBytes();
        test.allAtHand();
        test.allRefusesWhat();
        test.check.end();
    }

    // 1: "Bits 4, least 4, most 32"
    private void newRule() {
        check.due("new: four zeros behind four bytes end a part", cutNew(9, 8, 7, 22, NEVER, NEVER, NEVER), "4 3");
        check.due("new: three zeros don't", cutNew(9, 8, 7, 26, NEVER, NEVER, NEVER), "7");
        check.due("new: four zeros behind three bytes don't", cutNew(9, 8, 82, NEVER, NEVER, NEVER), "6");
        check.due("new: 32 bytes do", cutNew(Yards.same(65, NEVER)), "32 32 1");
    }

    // 1: "all files are empty"
    private void newFilesAreEmpty() {
        CutYard x = new CutYard();
        for (int f = 0; f < 16; f++) {
            check.due("new: size", x.size(f), 0);
            check.due("new: parts", x.parts(f), 0);
        }
        check.due("new: no parts", x.all(0), 0);
        check.due("new: no bytes", x.all(1), 0);
        check.refused("new: no part 0", NO_PART, () -> x.about(0, 1));
    }

    // 1: "nothing at hand"
    private void newHandIsEmpty() {
        CutYard x = new CutYard();
        check.due("new: at hand", x.all(2), 0);
        check.due("new: store of nothing", x.store(0), 0);
        check.due("new: size behind it", x.size(0), 0);
        check.due("new: the first put", x.put(1, 0), 1);
    }

    // 2: "How it is cut from now on"
    private void beginCutsFromNowOn() {
        CutYard x = new CutYard();
        int[][] rules = {{1, 1, 1}, {8, 1, 64}, {1, 32, 32}, {8, 32, 64}, {8, 32, 33}, {4, 4, 32}};
        String[] due = {"1 1 1", "64 64 1", "32 32 1", "64 64 1", "33 33 1", "32 32 1"};
        for (int i = 0; i < rules.length; i++) {
            int[] rule = rules[i];
            x.begin(rule[0], rule[1], rule[2]);
            Yards.give(x, Yards.same(2 * rule[2] + 1, NEVER));
            x.store(0);
            check.due("begun by " + rule[0] + ", " + rule[1] + ", " + rule[2], Yards.lengths(x, 0), due[i]);
        }
        x.edit(0, 0, 33);
        check.due("begun: an edit cuts so, too", Yards.lengths(x, 0), "32");
    }

    // 2: "all files are empty"
    private void beginEmptiesFiles() {
        CutYard x = new CutYard();
        for (int f = 0; f < 16; f++) {
            Yards.give(x, Yards.same(f + 1, f));
            x.store(f);
        }
        x.begin(4, 4, 32);
        for (int f = 0; f < 16; f++) {
            int file = f;
            check.due("begun: size", x.size(f), 0);
            check.due("begun: parts", x.parts(f), 0);
            check.refused("begun: no byte", INDEX, () -> x.get(file, 0));
            check.refused("begun: no part", INDEX, () -> x.part(file, 0));
            check.refused("begun: no number", NO_PART, () -> x.about(file, 0));
        }
        check.due("begun: all", x.all(0) + " " + x.all(1), "0 0");
        Yards.give(x, Yards.same(3, 2));
        check.due("begun: a part of before is new", x.store(9), 1);
        check.due("begun: the numbers are free", x.part(9, 0), 0);
    }

    // 2: "all files are empty" (and no word of what is at hand)
    private void beginLeavesTheHand() {
        CutYard x = new CutYard();
        Yards.give(x, 1, 2, 3, 4, 5);
        x.begin(8, 32, 64);
        check.due("begun: at hand", x.all(2), 5);
        x.store(0);
        check.due("begun: what was at hand", Yards.bytes(x, 0), "1 2 3 4 5");
    }

    // 2: "IllegalArgumentException if bits, least or most is not as it must be"
    private void beginRefuses() {
        int[][] wrong = {{0, 4, 32}, {9, 4, 32}, {-1, 4, 32}, {LOWEST, 4, 32}, {HIGHEST, 4, 32},
            {4, 0, 32}, {4, 33, 64}, {4, -1, 32}, {4, LOWEST, 32}, {4, HIGHEST, HIGHEST},
            {4, 4, 3}, {4, 4, 65}, {4, 1, 0}, {4, 32, 31}, {4, 4, -1}, {4, 4, LOWEST}, {4, 4, HIGHEST},
            {0, 0, 0}, {-4, -4, -4}};
        CutYard x = new CutYard();
        for (int[] w : wrong) {
            check.refused("begin(" + w[0] + ", " + w[1] + ", " + w[2] + ")", ARGUMENT, () -> begun(x, w));
        }
        int[][] right = {{1, 4, 32}, {8, 4, 32}, {4, 1, 32}, {4, 32, 64}, {4, 4, 4}, {4, 4, 64}, {4, 1, 1},
            {4, 32, 32}};
        for (int[] r : right) {
            check.due("begin(" + r[0] + ", " + r[1] + ", " + r[2] + ")", Check.answer(() -> begun(x, r)), "begun");
        }
    }

    // 3: "So many bytes more at hand (1 .. 4), the lowest byte of v first"
    private void putOneToFour() {
        String[] due = {"132", "132 115", "132 115 98", "132 115 98 241"};
        for (int many = 1; many <= 4; many++) {
            CutYard x = new CutYard();
            x.put(many, 0xf1627384);
            x.store(0);
            check.due("put " + many, Yards.bytes(x, 0), due[many - 1]);
        }
        CutYard y = new CutYard();
        y.put(2, HIGHEST);
        y.put(4, LOWEST);
        y.put(1, -2);
        y.store(0);
        check.due("puts go on behind each other", Yards.bytes(y, 0), "255 255 0 0 0 128 254");
    }

    // 3: "how many there are"
    private void putTellsHowMany() {
        CutYard x = new CutYard();
        check.due("the first", x.put(4, 0), 4);
        check.due("one more", x.put(1, 0), 5);
        x.store(0);
        check.due("from none again", x.put(3, 0), 3);
        check.due("as all(2) says", x.all(2), 3);
    }

    // 3: "IllegalArgumentException if many is not 1 .. 4"
    private void putRefusesMany() {
        CutYard x = new CutYard();
        for (int many : new int[] {0, 5, -1, 6, LOWEST, HIGHEST}) {
            check.refused("put(" + many + ")", ARGUMENT, () -> x.put(many, 0));
        }
        Yards.give(x, Yards.same(1500, 0));
        for (int many : new int[] {0, 5, -1, LOWEST, HIGHEST}) {
            check.refused("put(" + many + ") at 1500", ARGUMENT, () -> x.put(many, 0));
        }
    }

    // 3: "UnsupportedOperationException if there would be more than 1500"
    private void putRefusesOver1500() {
        for (int many = 1; many <= 4; many++) {
            int more = many;
            CutYard x = new CutYard();
            Yards.give(x, Yards.same(1500 - many, 0));
            check.due("put to 1500 by " + many, x.put(many, 0), 1500);
            CutYard y = new CutYard();
            Yards.give(y, Yards.same(1501 - many, 0));
            check.refused("put to 1501 by " + many, LIMIT, () -> y.put(more, 0));
            check.due("none of its bytes has come", y.all(2), 1501 - many);
        }
    }

    // 4: "A file becomes what is at hand"
    private void storeBecomesTheHand() {
        CutYard x = new CutYard();
        for (int many : new int[] {5, 1, 9, 0}) {
            for (int f : new int[] {0, 15}) {
                Yards.give(x, Yards.squares(many));
                x.store(f);
                check.due("stored " + many, Yards.bytes(x, f), spaced(Yards.squares(many)));
            }
        }
        Yards.give(x, Yards.same(1500, 7));
        x.store(15);
        check.due("stored the longest", x.size(15), 1500);
        check.due("no other file", x.size(14), 0);
    }

    // 4: "which is empty then"
    private void storeEmptiesTheHand() {
        CutYard x = new CutYard();
        Yards.give(x, 1, 2, 3);
        x.store(0);
        check.due("stored: at hand", x.all(2), 0);
        x.store(1);
        check.due("stored: nothing more", x.size(1), 0);
        Yards.give(x, 4);
        x.store(2);
        check.due("stored: only what came behind", Yards.bytes(x, 2), "4");
    }

    // 4: "how many of its parts were in no file before, each once"
    private void storeCountsNewOnes() {
        CutYard x = Yards.ofPairs();
        Yards.give(x, 1, 1, 1, 1, 2, 2, 1, 1);
        check.due("each once", x.store(0), 2);
        Yards.give(x, 2, 2, 3, 3);
        check.due("not what another file has", x.store(1), 1);
        Yards.give(x, 3, 3, 2, 2, 3, 3);
        check.due("not what it has itself", x.store(1), 0);
        check.due("nothing", x.store(1), 0);
        Yards.give(x, 3, 3);
        check.due("again what had left", x.store(1), 1);
        x.put(1, 3);
        check.due("a shorter one", x.store(2), 1);
        Yards.give(x, Yards.pairs(0, 200));
        check.due("many", x.store(3), 200);
    }

    // 4: "IndexOutOfBoundsException if there is no such file"
    private void storeNeedsAFile() {
        CutYard x = new CutYard();
        needsAFile("store", file -> x.store(file));
        CutYard full = Yards.ofPairs();
        Yards.give(full, Yards.pairs(0, 400));
        full.store(0);
        Yards.give(full, Yards.pairs(400, 401));
        check.refused("store: no file, and no room", INDEX, () -> full.store(16));
    }

    // 4: "UnsupportedOperationException if there would be more than 400 parts"
    private void storeRefusesOver400() {
        for (int there : new int[] {0, 1, 200, 399}) {
            CutYard x = Yards.ofPairs();
            Yards.give(x, Yards.pairs(0, there));
            x.store(0);
            Yards.give(x, Yards.pairs(there, 401));
            check.refused(there + " and up to 401", LIMIT, () -> x.store(1));
            CutYard y = Yards.ofPairs();
            Yards.give(y, Yards.pairs(0, there));
            y.store(0);
            Yards.give(y, Yards.pairs(there, 400));
            check.due(there + " and up to 400", y.store(1), 400 - there);
            Yards.give(y, Yards.pairs(398, 400));
            check.due("none new, with 400", y.store(2), 0);
            check.due("nothing, with 400", y.store(3), 0);
        }
    }

    // 4: "(those of its old content counted, too)"
    private void storeCountsOldOnes() {
        CutYard x = Yards.ofPairs();
        Yards.give(x, Yards.pairs(0, 200));
        x.store(0);
        Yards.give(x, Yards.pairs(200, 401));
        check.refused("200 old and 201 new", LIMIT, () -> x.store(0));

        CutYard y = Yards.ofPairs();
        Yards.give(y, Yards.pairs(0, 200));
        y.store(0);
        Yards.give(y, Yards.pairs(200, 400));
        check.due("200 old and 200 new", y.store(0), 200);
        check.due("the old have left", y.all(0), 200);
        check.due("their numbers are free", y.part(0, 0) + " " + y.part(0, 199), "200 399");

        CutYard z = Yards.ofPairs();
        Yards.give(z, Yards.pairs(0, 200));
        z.store(0);
        Yards.give(z, Yards.pairs(150, 400));
        check.due("200 old and 250, 50 of them in both", z.store(0), 200);
        check.due("those in both are left", z.all(0) + " " + z.part(0, 0) + " " + z.part(0, 50), "250 150 200");
    }

    // 5: "What is at hand comes into a file at a place"
    private void editComesIn() {
        for (int at = 0; at <= 3; at++) {
            CutYard x = Yards.ofPairs();
            Yards.give(x, 1, 2, 3);
            x.store(0);
            Yards.give(x, 8, 9);
            x.edit(0, at, 0);
            check.due("edit at " + at, Yards.bytes(x, 0),
                new String[] {"8 9 1 2 3", "1 8 9 2 3", "1 2 8 9 3", "1 2 3 8 9"}[at]);
        }
        CutYard y = new CutYard();
        Yards.give(y, 8, 9);
        check.due("edit of an empty file", y.edit(15, 0, 0), 1);
        check.due("edit of an empty file: bytes", Yards.bytes(y, 15), "8 9");
        check.due("edit of nothing into nothing", y.edit(3, 0, 0), 0);
        check.due("edit of nothing into nothing: size", y.size(3), 0);
    }

    // 5: "in place of so many bytes"
    private void editDrops() {
        int[][] edits = {{0, 1}, {2, 1}, {1, 2}, {0, 3}, {3, 0}, {0, 0}};
        String[] with = {"8 9 2 3", "1 2 8 9", "1 8 9", "8 9", "1 2 3 8 9", "8 9 1 2 3"};
        String[] without = {"2 3", "1 2", "1", "", "1 2 3", "1 2 3"};
        for (int i = 0; i < edits.length; i++) {
            CutYard x = Yards.ofPairs();
            Yards.give(x, 1, 2, 3);
            x.store(0);
            x.copy(0, 1);
            x.edit(1, edits[i][0], edits[i][1]);
            Yards.give(x, 8, 9);
            x.edit(0, edits[i][0], edits[i][1]);
            check.due("edit at " + edits[i][0] + " for " + edits[i][1], Yards.bytes(x, 0), with[i]);
            check.due("with nothing at hand", Yards.bytes(x, 1), without[i]);
        }
    }

    // 5: "and is empty then"
    private void editEmptiesTheHand() {
        CutYard x = new CutYard();
        Yards.give(x, 1, 2, 3);
        x.edit(0, 0, 0);
        check.due("edited: at hand", x.all(2), 0);
        x.edit(0, 1, 1);
        check.due("edited: nothing comes again", Yards.bytes(x, 0), "1 3");
        check.due("edited: the next put", x.put(1, 4), 1);
    }

    // 5: "how many of its parts were in no file before, each once"
    private void editCountsNewOnes() {
        CutYard x = Yards.ofPairs();
        Yards.give(x, 1, 1, 2, 2);
        x.store(0);
        Yards.give(x, 3, 3, 3, 3);
        check.due("each once", x.edit(0, 2, 0), 1);
        Yards.give(x, 3, 3, 2, 2);
        check.due("not what another file has", x.edit(1, 0, 0), 0);
        check.due("not what it has itself", x.edit(0, 0, 2), 0);
        Yards.give(x, 1, 1);
        check.due("again what had left", x.edit(0, 0, 0), 1);
        check.due("no edit at all", x.edit(0, 4, 0), 0);
        check.due("three, where all shifts by one", x.edit(0, 0, 1), 3);
        check.due("its parts then", Yards.bytes(x, 0), "1 3 3 3 3 2 2");
    }

    // 5: "IndexOutOfBoundsException if there is no such file"
    private void editNeedsAFile() {
        CutYard x = new CutYard();
        needsAFile("edit", file -> x.edit(file, 0, 0));
        for (int file : new int[] {-1, 16}) {
            check.refused("edit: no file and no bytes", INDEX, () -> x.edit(file, -1, -1));
            check.refused("edit: no file and no bytes", INDEX, () -> x.edit(file, 1, 1));
        }
    }

    // 5: "IllegalArgumentException if the bytes aren't there"
    private void editNeedsItsBytes() {
        CutYard x = new CutYard();
        Yards.give(x, 1, 2, 3);
        x.store(0);
        int[][] wrong = {{-1, 0}, {-1, 1}, {-1, 2}, {4, 0}, {4, -1}, {3, 1}, {2, 2}, {0, 4}, {0, -1}, {3, -1}, {1, -1},
            {LOWEST, 0}, {HIGHEST, 0}, {0, LOWEST}, {0, HIGHEST}, {1, HIGHEST}, {3, HIGHEST}, {HIGHEST, 1},
            {HIGHEST, HIGHEST}, {LOWEST, LOWEST}, {HIGHEST, LOWEST}, {LOWEST, HIGHEST}, {-3, 3}, {5, -2}};
        for (int[] w : wrong) {
            check.refused("edit at " + w[0] + " for " + w[1], ARGUMENT, () -> x.edit(0, w[0], w[1]));
        }
        check.refused("edit of an empty file for 1", ARGUMENT, () -> x.edit(1, 0, 1));
        check.refused("edit of an empty file at 1", ARGUMENT, () -> x.edit(1, 1, 0));
        check.due("edit at the end", x.edit(0, 3, 0), 0);
        check.due("edit for all", x.edit(0, 0, 3), 0);
    }

    // 5: "UnsupportedOperationException if it would have more than 1500 bytes"
    private void editRefusesOver1500() {
        CutYard x = new CutYard();
        Yards.give(x, Yards.same(1499, NEVER));
        x.store(0);
        x.put(1, 1);
        x.edit(0, 700, 0);
        check.due("edit to 1500", x.size(0), 1500);
        x.put(1, 1);
        check.refused("edit to 1501", LIMIT, () -> x.edit(0, 0, 0));
        x.put(3, 0);
        for (int drop = 0; drop < 4; drop++) {
            int less = drop;
            check.refused("4 more for " + drop, LIMIT, () -> x.edit(0, 1490, less));
        }
        x.edit(0, 1490, 4);
        check.due("4 more for 4", x.size(0), 1500);
        Yards.give(x, 1, 2, 3, 4, 5);
        x.edit(0, 0, 1500);
        check.due("5 for all 1500", Yards.bytes(x, 0), "1 2 3 4 5");
    }

    // 5: "or as for store()": more than 400 parts, those of its old content counted, too
    private void editRefusesOver400() {
        CutYard x = Yards.ofPairs();
        Yards.give(x, Yards.pairs(0, 200));
        x.store(0);
        Yards.give(x, Yards.pairs(200, 400));
        check.due("200 old and 200 new ones", x.edit(0, 0, 400), 200);
        check.due("the old have left", x.all(0), 200);

        CutYard y = Yards.ofPairs();
        Yards.give(y, Yards.pairs(0, 200));
        y.store(0);
        Yards.give(y, Yards.pairs(200, 401));
        check.refused("200 old and 201 new ones", LIMIT, () -> y.edit(0, 0, 400));
        check.refused("200 old and 201 new ones behind them", LIMIT, () -> y.edit(0, 400, 0));

        CutYard z = Yards.ofPairs();
        Yards.give(z, Yards.pairs(0, 400));
        z.store(0);
        check.refused("shorter by one byte, all parts new", LIMIT, () -> z.edit(0, 0, 1));
        check.refused("shorter by one byte, the last part new", LIMIT, () -> z.edit(0, 799, 1));
        check.due("shorter by a part, none new", z.edit(0, 798, 2), 0);
        check.due("shorter by one byte, in the room of that part", z.edit(0, 797, 1), 1);
        check.due("399 parts still", z.all(0), 399);
    }

    // 5: "throws IndexOutOfBoundsException, IllegalArgumentException, UnsupportedOperationException": in this order
    private void editOrderOfRefusals() {
        CutYard x = new CutYard();
        Yards.give(x, Yards.same(1500, 1));
        x.store(0);
        x.put(2, 0);
        check.refused("no file, no bytes, too long", INDEX, () -> x.edit(16, 1501, 0));
        check.refused("no bytes, too long", ARGUMENT, () -> x.edit(0, 1501, 0));
        check.refused("no bytes, too long", ARGUMENT, () -> x.edit(0, 1500, 1));
        check.refused("no bytes, too long", ARGUMENT, () -> x.edit(0, 0, -1));
        check.refused("too long", LIMIT, () -> x.edit(0, 1500, 0));
    }

    // 6: "A file becomes what another one is."
    private void copyBecomes() {
        CutYard x = Yards.ofPairs();
        Yards.give(x, 1, 1, 2, 2, 1, 1, 3);
        x.store(0);
        Yards.give(x, 4, 4, 2, 2);
        x.store(15);
        x.put(1, 9);
        x.copy(0, 15);
        check.due("copied: bytes", Yards.bytes(x, 15), "1 1 2 2 1 1 3");
        check.due("copied: numbers", Yards.numbers(x, 15), "0 1 0 2");
        check.due("copied: the first one stays", Yards.bytes(x, 0), "1 1 2 2 1 1 3");
        check.due("copied: the old part has left", x.all(0) + " " + x.all(1), "3 5");
        check.due("copied: what is at hand stays", x.all(2), 1);
        check.due("copied: uses", x.about(0, 1) + " " + x.about(1, 1) + " " + x.about(2, 1), "4 2 2");
        x.copy(7, 0);
        check.due("copied an empty one", x.size(0) + " " + x.parts(0), "0 0");
        x.copy(8, 7);
        check.due("copied an empty one to an empty one", x.size(7), 0);
        check.due("copies live apart", Yards.bytes(x, 15), "1 1 2 2 1 1 3");
        x.copy(0, 15);
        check.due("nothing is left", x.all(0) + " " + x.all(1), "0 0");

        CutYard y = Yards.ruled(1, 1, 1);
        Yards.give(y, Yards.same(1500, 5));
        y.store(0);
        y.copy(0, 1);
        check.due("copied the longest", y.size(1) + " " + y.parts(1) + " " + y.about(0, 1), "1500 1500 3000");
    }

    // 6: "A file becomes what another one is.": itself
    private void copyOfItself() {
        CutYard x = Yards.ofPairs();
        Yards.give(x, 1, 1, 2, 2, 1, 1);
        x.store(4);
        x.copy(4, 4);
        check.due("copied to itself: numbers", Yards.numbers(x, 4), "0 1 0");
        check.due("copied to itself: uses", x.about(0, 1) + " " + x.about(1, 1), "2 1");
        check.due("copied to itself: bytes", Yards.bytes(x, 4), "1 1 2 2 1 1");
    }

    // 6: "Exceptions as for store() for both.": IndexOutOfBoundsException
    private void copyNeedsBothFiles() {
        CutYard x = new CutYard();
        needsAFile("copy from", file -> copied(x, file, 0));
        needsAFile("copy to", file -> copied(x, 0, file));
        needsAFile("copy both", file -> copied(x, file, file));
    }

    // 6: "Exceptions as for store() for both.": UnsupportedOperationException never comes, for no part is new
    private void copyIsNeverFull() {
        CutYard x = Yards.ofPairs();
        Yards.give(x, Yards.pairs(0, 200));
        x.store(0);
        Yards.give(x, Yards.pairs(200, 400));
        x.store(1);
        x.copy(0, 2);
        check.due("copied with 400 parts", x.parts(2), 200);
        x.copy(0, 1);
        check.due("copied over the half of them", x.all(0), 200);
        check.due("uses", x.about(0, 1) + " " + x.about(199, 1), "3 3");
    }

    // 7: "How many bytes a file has. IndexOutOfBoundsException if there is no such file."
    private void sizeNeedsAFile() {
        CutYard x = new CutYard();
        check.due("size of none", x.size(0), 0);
        x.put(1, 0);
        x.store(0);
        check.due("size of one", x.size(0), 1);
        Yards.give(x, Yards.same(1500, 0));
        x.store(15);
        check.due("size of the longest", x.size(15), 1500);
        needsAFile("size", file -> x.size(file));
    }

    // 8: "Byte k of a file."
    private void getFirstAndLast() {
        CutYard x = new CutYard();
        int[] row = Yards.squares(400);
        Yards.give(x, row);
        x.store(15);
        for (int k = 0; k < 400; k++) {
            check.due("get " + k, x.get(15, k), row[k]);
        }
        CutYard y = Yards.ruled(8, 32, 64);
        Yards.give(y, Yards.pairs(0, 96));
        y.store(0);
        int[] cut = Yards.pairs(0, 96);
        int end = 0;
        for (int k = 0; k < y.parts(0); k++) {
            check.due("the first byte of a part", y.get(0, end), cut[end]);
            end += y.about(y.part(0, k), 0);
            check.due("the last byte of a part", y.get(0, end - 1), cut[end - 1]);
        }
    }

    // 8: "IndexOutOfBoundsException if there is no such file or byte."
    private void getNeedsAFileAndByte() {
        CutYard x = new CutYard();
        for (int f = 0; f < 16; f++) {
            x.put(1, 200 + f);
            x.store(f);
        }
        needsAFile("get", file -> x.get(file, 0));
        for (int k : new int[] {1, -1, LOWEST, HIGHEST}) {
            check.refused("get(0, " + k + ")", INDEX, () -> x.get(0, k));
        }
        x.store(0);
        check.refused("get of an empty file", INDEX, () -> x.get(0, 0));
        Yards.give(x, Yards.same(1500, 3));
        x.store(0);
        check.due("get(0, 1499)", x.get(0, 1499), 3);
        check.refused("get(0, 1500)", INDEX, () -> x.get(0, 1500));
    }

    // 9: "How many parts a file has."
    private void partsNoneToMost() {
        CutYard x = Yards.ruled(1, 1, 1);
        check.due("no parts", x.parts(0), 0);
        x.put(1, 0);
        x.store(0);
        check.due("one part", x.parts(0), 1);
        Yards.give(x, Yards.same(1500, 0));
        x.store(15);
        check.due("1500 parts, each one's", x.parts(15), 1500);
    }

    // 9: "IndexOutOfBoundsException if there is no such file."
    private void partsNeedsAFile() {
        CutYard x = new CutYard();
        needsAFile("parts", file -> x.parts(file));
    }

    // 10: "The number of part k of a file."
    private void partFirstAndLast() {
        CutYard x = Yards.ofPairs();
        Yards.give(x, 1, 1, 2, 2, 1, 1, 3);
        x.store(0);
        check.due("the first ones", x.part(0, 0) + " " + x.part(0, 1), "0 1");
        check.due("the last ones", x.part(0, 2) + " " + x.part(0, 3), "0 2");
        x.begin(1, 1, 1);
        Yards.give(x, Yards.same(1500, 0));
        x.store(15);
        check.due("the last of 1500", x.part(15, 1499), 0);
        check.refused("no 1500", INDEX, () -> x.part(15, 1500));
    }

    // 10: "IndexOutOfBoundsException if there is no such file or part."
    private void partNeedsAFileAndPart() {
        CutYard x = Yards.ofPairs();
        for (int f = 0; f < 16; f++) {
            x.put(4, f << 24 | f << 8);
            x.store(f);
        }
        needsAFile("part", file -> x.part(file, 1));
        // A file has more bytes than parts: place 2 is a byte's, not a part's.
        for (int k : new int[] {2, 3, -1, LOWEST, HIGHEST}) {
            check.refused("part(0, " + k + ")", INDEX, () -> x.part(0, k));
        }
        x.store(0);
        check.refused("part of an empty file", INDEX, () -> x.part(0, 0));
    }

    // 11: "0 how many bytes it has"
    private void aboutLengths() {
        CutYard x = Yards.ruled(8, 32, 64);
        Yards.give(x, Yards.same(65, NEVER));
        x.store(0);
        check.due("the longest and the shortest", x.about(0, 0) + " " + x.about(1, 0), "64 1");
    }

    // 11: "1 its uses"
    private void aboutUses() {
        CutYard x = Yards.ofPairs();
        Yards.give(x, 1, 1, 1, 1, 2, 2);
        x.store(0);
        x.copy(0, 1);
        Yards.give(x, 1, 1);
        x.store(2);
        check.due("uses", x.about(0, 1) + " " + x.about(1, 1), "5 2");
        x.edit(0, 0, 2);
        check.due("uses, one less", x.about(0, 1) + " " + x.about(1, 1), "4 2");
    }

    // 11: "2 in how many files it is"
    private void aboutFiles() {
        CutYard x = Yards.ofPairs();
        for (int f = 0; f < 16; f++) {
            Yards.give(x, 1, 1, 1, 1);
            x.store(f);
            check.due("in files", x.about(0, 2), f + 1);
        }
        x.edit(0, 0, 2);
        check.due("once is in", x.about(0, 2), 16);
        x.edit(0, 0, 2);
        check.due("no more in", x.about(0, 2), 15);
    }

    // 11: "NoSuchElementException if there is no such part"
    private void aboutNeedsAPart() {
        CutYard x = Yards.ofPairs();
        Yards.give(x, Yards.pairs(0, 400));
        for (int what = 0; what < 3; what++) {
            int asked = what;
            check.refused("about(0) of none", NO_PART, () -> x.about(0, asked));
        }
        x.store(0);
        check.due("about(399) of 400", x.about(399, 0), 2);
        for (int number : new int[] {400, 401, -1, LOWEST, HIGHEST}) {
            for (int what = 0; what < 3; what++) {
                int asked = what;
                check.refused("about(" + number + ", " + what + ")", NO_PART, () -> x.about(number, asked));
            }
        }
        x.edit(0, 2, 2);
        check.refused("about(1) that has left", NO_PART, () -> x.about(1, 0));
        check.due("about(0) that is left", x.about(0, 1), 1);
        check.due("about(2) that is left", x.about(2, 1), 1);
    }

    // 11: "IllegalArgumentException for another what"
    private void aboutRefusesWhat() {
        CutYard x = new CutYard();
        x.put(1, 0);
        x.store(0);
        for (int what : new int[] {-1, 3, LOWEST, HIGHEST}) {
            check.refused("about(0, " + what + ")", ARGUMENT, () -> x.about(0, what));
            check.refused("about(1, " + what + "): no such part first", NO_PART, () -> x.about(1, what));
        }
    }

    // 12: "How many bytes of a file are in parts that another one has, too."
    private void commonNoneToAll() {
        CutYard x = Yards.ofPairs();
        check.due("of empty ones", x.common(0, 15), 0);
        Yards.give(x, 1, 1, 2, 2, 3);
        x.store(0);
        check.due("with an empty one", x.common(0, 15), 0);
        check.due("of an empty one", x.common(15, 0), 0);
        Yards.give(x, 1, 2, 2, 3);
        x.store(15);
        check.due("like bytes, no like parts", x.common(0, 15), 0);
        x.copy(0, 15);
        check.due("all", x.common(0, 15), 5);
        check.due("with itself", x.common(0, 0), 5);
        x.begin(1, 1, 1);
        Yards.give(x, Yards.same(1500, 1));
        x.store(0);
        x.put(1, 1);
        x.store(1);
        check.due("1500 by one", x.common(0, 1), 1500);
        check.due("one by 1500", x.common(1, 0), 1);
    }

    // 12: "bytes of a file .. that another one has, too": those of the first one, each time
    private void commonCountsBytesOfTheFirst() {
        CutYard x = Yards.ofPairs();
        Yards.give(x, 1, 1, 2, 2, 1, 1, 3);
        x.store(0);
        Yards.give(x, 4, 4, 1, 1, 4, 4, 4, 4, 3);
        x.store(1);
        check.due("twice 1 1, and 3", x.common(0, 1), 5);
        check.due("once 1 1, and 3", x.common(1, 0), 3);
    }

    // 12: "IndexOutOfBoundsException if there is no such file."
    private void commonNeedsBothFiles() {
        CutYard x = new CutYard();
        needsAFile("common of", file -> x.common(file, 0));
        needsAFile("common with", file -> x.common(0, file));
        needsAFile("common both", file -> x.common(file, file));
    }

    // 13: "0 how many parts there are"
    private void allParts() {
        CutYard x = Yards.ofPairs();
        check.due("no parts", x.all(0), 0);
        Yards.give(x, 1, 1, 1, 1, 2, 2);
        check.due("what is at hand has none", x.all(0), 0);
        x.store(0);
        x.copy(0, 1);
        check.due("each once", x.all(0), 2);
        x.store(0);
        check.due("still in the other", x.all(0), 2);
        x.store(1);
        check.due("no parts again", x.all(0), 0);
        Yards.give(x, Yards.pairs(0, 400));
        x.store(0);
        check.due("400 parts", x.all(0), 400);
    }

    // 13: "1 how many bytes they have together"
    private void allBytes() {
        CutYard x = Yards.ofPairs();
        check.due("no bytes", x.all(1), 0);
        Yards.give(x, 1, 1, 1, 1, 2);
        check.due("what is at hand doesn't count", x.all(1), 0);
        x.store(0);
        x.copy(0, 1);
        check.due("each part's once", x.all(1), 3);
        x.edit(0, 4, 1);
        check.due("still in the other", x.all(1), 3);
        x.edit(1, 4, 1);
        check.due("one part less", x.all(1), 2);

        CutYard y = new CutYard();
        Yards.give(y, Yards.same(1500, NEVER));
        y.store(0);
        check.due("46 parts of 32, and 28", y.all(1), 60);
    }

    // 13: "2 how many bytes are at hand"
    private void allAtHand() {
        CutYard x = new CutYard();
        check.due("none at hand", x.all(2), 0);
        Yards.give(x, Yards.same(1500, 0));
        check.due("1500 at hand", x.all(2), 1500);
        x.copy(0, 1);
        check.due("copy takes none", x.all(2), 1500);
        x.store(0);
        check.due("none again", x.all(2), 0);
    }

    // 13: "IllegalArgumentException for another what."
    private void allRefusesWhat() {
        CutYard x = new CutYard();
        for (int what : new int[] {-1, 3, LOWEST, HIGHEST}) {
            check.refused("all(" + what + ")", ARGUMENT, () -> x.all(what));
        }
    }

    /** Files 0 and 15 are there, those beside them and the farthest aren't. */
    private void needsAFile(String call, IntFunction<Object> made) {
        for (int file : new int[] {-1, 16, 17, LOWEST, HIGHEST}) {
            check.refused(call + " " + file, INDEX, () -> made.apply(file));
        }
        for (int file : new int[] {0, 15}) {
            boolean refused = Check.answer(() -> made.apply(file)).startsWith("throws.");
            check.due(call + " " + file + " is refused", refused, false);
        }
    }

    private static Object begun(CutYard x, int[] rule) {
        x.begin(rule[0], rule[1], rule[2]);
        return "begun";
    }

    private static Object copied(CutYard x, int from, int to) {
        x.copy(from, to);
        return "copied";
    }

    private static String cutNew(int... row) {
        CutYard x = new CutYard();
        Yards.give(x, row);
        x.store(0);
        return Yards.lengths(x, 0);
    }

    private static String spaced(int[] row) {
        StringBuilder text = new StringBuilder();
        for (int k = 0; k < row.length; k++) {
            text.append(k == 0 ? "" : " ").append(row[k]);
        }
        return text.toString();
    }
}
