import java.util.NoSuchElementException;

/** Each promise of the document by itself: ordinary inputs, the named edges, wrong inputs. */
public final class PromiseTest {
    private static final Class<IllegalArgumentException> ARGUMENT = IllegalArgumentException.class;
    private static final Class<IndexOutOfBoundsException> INDEX = IndexOutOfBoundsException.class;
    private static final Class<UnsupportedOperationException> LIMIT = UnsupportedOperationException.class;
    private static final Class<NoSuchElementException> NO_PART = NoSuchElementException.class;
    private static final int[] NO_FILES = {-1, 16, Integer.MIN_VALUE, Integer.MAX_VALUE};

    private final Check check = new Check();

    private PromiseTest() {
    }

    public static void main(String[] args) {
        PromiseTest test = new PromiseTest();
        test.cutting();
        test.newObject();
        test.begin();
        test.put();
        test.store();
        test.storeNumbers();
        test.storeLimit();
        test.edit();
        test.editPlaces();
        test.editLimits();
        test.copy();
        test.size();
        test.get();
        test.parts();
        test.part();
        test.about();
        test.common();
        test.all();
        test.check.end();
    }

    private void cutting() {
        // The lengths come from a separate program over the document's words.
        cutAs("i * i", Yards.squares(100), 4, 4, 32, "15 10 8 13 8 9 17 20");
        cutAs("i * i", Yards.squares(100), 3, 2, 16, "2 13 10 4 2 7 7 5 2 11 16 2 7 7 5");
        cutAs("i * i", Yards.squares(100), 8, 1, 64, "2 64 34");
        cutAs("i * i", Yards.squares(100), 2, 9, 11, "9 11 10 11 11 9 11 11 9 8");
        cutAs("i * i", Yards.squares(100), 5, 12, 64, "15 31 17 37");
        cutAs("255 - i", downwards(100), 4, 4, 32, "7 11 6 12 25 6 19 12 2");
        cutAs("255 - i", downwards(100), 5, 12, 64, "18 25 46 11");
        cutAs("255 - i", downwards(100), 8, 32, 64, "64 36");
        cutAs("255 - i", downwards(5), 1, 1, 1, "1 1 1 1 1");
    }

    private void cutAs(String name, int[] row, int bits, int least, int most, String lengths) {
        CutYard x = new CutYard();
        x.begin(bits, least, most);
        Yards.give(x, row);
        x.store(0);
        check.due(name + " cut by " + bits + ", " + least + ", " + most, Yards.lengths(x, 0), lengths);
    }

    private void newObject() {
        CutYard x = new CutYard();
        for (int f = 0; f < 16; f++) {
            check.due("new: size", x.size(f), 0);
            check.due("new: parts", x.parts(f), 0);
        }
        for (int what = 0; what < 3; what++) {
            check.due("new: all", x.all(what), 0);
        }
        // A row that any other bits, least or most near 4, 4, 32 cuts elsewhere.
        Yards.give(x, steps(100, 177));
        x.store(0);
        check.due("new: cut by 4, 4, 32", Yards.lengths(x, 0), "21 32 4 7 17 6 5 4 4");
    }

    private void begin() {
        CutYard x = new CutYard();
        Yards.give(x, Yards.squares(100));
        x.store(3);
        x.put(3, 0x030201);
        int[][] wrong = {{0, 1, 1}, {9, 1, 1}, {-1, 1, 1}, {1, 0, 1}, {1, 33, 33}, {1, 5, 4}, {1, 1, 65}, {1, 1, 0},
            {1, -5, -5}, {Integer.MAX_VALUE, 1, 1}, {1, Integer.MAX_VALUE, Integer.MAX_VALUE},
            {1, 1, Integer.MAX_VALUE}, {1, Integer.MIN_VALUE, 1}};
        for (int[] w : wrong) {
            check.refused("begin wrong", ARGUMENT, () -> {
                x.begin(w[0], w[1], w[2]);
                return "nothing";
            });
        }
        check.due("begin refused: size stays", x.size(3), 100);
        x.edit(3, 100, 0);
        check.due("begin refused: the rule stays", Yards.lengths(x, 3), "15 10 8 13 8 9 17 23");
        x.put(3, 0x060504);
        x.begin(8, 32, 64);
        check.due("begin: size", x.size(3), 0);
        check.due("begin: parts", x.parts(3), 0);
        check.due("begin: all parts", x.all(0), 0);
        check.due("begin: all bytes", x.all(1), 0);
        check.refused("begin: no part", NO_PART, () -> x.about(0, 0));
        check.due("begin: at hand stays", x.all(2), 3);
        x.store(0);
        check.due("begin: the least number again", x.part(0, 0), 0);
        for (int[] edge : new int[][] {{1, 1, 1}, {8, 32, 32}, {8, 32, 64}, {1, 1, 64}}) {
            x.begin(edge[0], edge[1], edge[2]);
        }
    }

    private void put() {
        CutYard x = new CutYard();
        check.due("put 1", x.put(1, 0x44332211), 1);
        check.due("put 2", x.put(2, 0x44332211), 3);
        check.due("put 3", x.put(3, 0x44332211), 6);
        check.due("put 4", x.put(4, 0xfe332211), 10);
        for (int many : new int[] {0, 5, -1, Integer.MIN_VALUE, Integer.MAX_VALUE}) {
            check.refused("put(" + many + ")", ARGUMENT, () -> x.put(many, 0));
        }
        check.due("put refused", x.all(2), 10);
        x.store(0);
        check.due("put: lowest first", Yards.bytes(x, 0), "17 17 34 17 34 51 17 34 51 254");

        CutYard y = new CutYard();
        for (int i = 1; i <= 374; i++) {
            y.put(4, i);
        }
        check.due("put to 1499", y.put(3, 0), 1499);
        check.refused("put over 1500", LIMIT, () -> y.put(2, 0));
        check.refused("put wrong at the limit", ARGUMENT, () -> y.put(5, 0));
        check.due("put to 1500", y.put(1, 0), 1500);
        check.refused("put over 1500", LIMIT, () -> y.put(1, 0));
        check.due("put refused", y.all(2), 1500);
    }

    private void store() {
        CutYard x = new CutYard();
        x.begin(1, 2, 2);
        Yards.give(x, 1, 2, 3, 4, 1, 2, 5, 6);
        check.due("store: new parts, each once", x.store(0), 3);
        check.due("store: the hand is empty", x.all(2), 0);
        check.due("store: bytes", Yards.bytes(x, 0), "1 2 3 4 1 2 5 6");
        Yards.give(x, 3, 4, 7, 8);
        check.due("store: only those in no file", x.store(15), 1);
        Yards.give(x, 5, 6, 1, 2, 5, 6);
        check.due("store: those of its old content are not new", x.store(0), 0);
        check.due("store: what no file has is gone", x.all(0), 4);
        check.due("store empty", x.store(0), 0);
        check.due("store empty: size", x.size(0), 0);
        check.due("store empty: parts left", x.all(0), 2);
        Yards.give(x, 1);
        for (int file : NO_FILES) {
            check.refused("store(" + file + ")", INDEX, () -> x.store(file));
        }
        check.due("store refused: the hand stays", x.all(2), 1);
    }

    private void storeNumbers() {
        CutYard x = new CutYard();
        x.begin(1, 2, 2);
        Yards.give(x, 1, 1, 2, 2, 3, 3, 4, 4);
        x.store(0);
        check.due("numbers in order of coming", Yards.numbers(x, 0), "0 1 2 3");
        Yards.give(x, 4, 4, 2, 2);
        x.store(1);
        check.due("numbers of known parts", Yards.numbers(x, 1), "3 1");
        x.store(0);
        Yards.give(x, 5, 5, 4, 4, 6, 6, 7, 7);
        x.store(2);
        check.due("the least free numbers", Yards.numbers(x, 2), "0 3 2 4");
        Yards.give(x, 7, 7, 8, 8, 8, 8);
        x.store(2);
        check.due("old parts leave behind the new ones", Yards.numbers(x, 2), "4 5 5");
        Yards.give(x, 9, 9);
        x.store(3);
        check.due("what left is free", Yards.numbers(x, 3), "0");
    }

    private void storeLimit() {
        CutYard x = new CutYard();
        x.begin(8, 2, 2);
        Yards.give(x, Yards.pairs(0, 399));
        check.due("399 parts", x.store(0), 399);
        Yards.give(x, Yards.pairs(399, 401));
        check.refused("store beyond 400 parts", LIMIT, () -> x.store(1));
        check.refused("store beyond 400 parts with its old ones", LIMIT, () -> x.store(0));
        check.due("store refused: parts", x.all(0), 399);
        check.due("store refused: hand", x.all(2), 4);
        check.due("store refused: target", x.size(1), 0);
        check.due("store refused: uses", x.about(0, 1), 1);
        check.refused("store refused: no part", NO_PART, () -> x.about(399, 0));

        CutYard y = new CutYard();
        y.begin(8, 2, 2);
        Yards.give(y, Yards.pairs(0, 399));
        y.store(0);
        Yards.give(y, Yards.pairs(398, 400));
        check.due("store to 400 parts", y.store(1), 1);
        check.due("store to 400 parts: numbers", Yards.numbers(y, 1), "398 399");
        check.due("store to 400 parts: all", y.all(0), 400);
        Yards.give(y, Yards.pairs(0, 2));
        check.due("store of known parts at the limit", y.store(2), 0);
        Yards.give(y, Yards.pairs(400, 401));
        check.refused("store of one more", LIMIT, () -> y.store(2));
    }

    private void edit() {
        CutYard x = new CutYard();
        Yards.give(x, Yards.squares(100));
        x.store(0);
        x.copy(0, 1);
        x.put(1, 77);
        check.due("edit: one new part", x.edit(0, 40, 0), 1);
        check.due("edit: cut anew", Yards.lengths(x, 0), lengthsAnew(x, 0));
        check.due("edit: the hand is empty", x.all(2), 0);
        check.due("edit: like stretches, like parts", x.common(0, 1) > 50, true);
        check.due("edit back", x.edit(0, 40, 1), 0);
        check.due("edit back: common", x.common(0, 1), 100);
        check.due("edit of nothing", x.edit(0, 50, 0), 0);
        for (int file : NO_FILES) {
            check.refused("edit(" + file + ")", INDEX, () -> x.edit(file, 0, 0));
            check.refused("edit(" + file + ") first", INDEX, () -> x.edit(file, -1, -1));
        }
        x.put(2, 0);
        int[][] wrong = {{-1, 0}, {101, 0}, {100, 1}, {0, 101}, {0, -1}, {50, 51}, {Integer.MAX_VALUE, 1},
            {1, Integer.MAX_VALUE}, {Integer.MAX_VALUE, Integer.MAX_VALUE}, {Integer.MIN_VALUE, Integer.MIN_VALUE},
            {100, -1}};
        for (int[] w : wrong) {
            check.refused("edit at " + w[0] + ", " + w[1], ARGUMENT, () -> x.edit(0, w[0], w[1]));
        }
        check.due("edit refused: the hand stays", x.all(2), 2);
        check.due("edit refused: the file stays", x.common(0, 1), 100);
    }

    private void editPlaces() {
        CutYard x = new CutYard();
        x.begin(8, 2, 2);
        Yards.give(x, 1, 1, 2, 2, 3, 3);
        x.store(0);
        Yards.give(x, 9, 9);
        check.due("edit in front", x.edit(0, 0, 0), 1);
        check.due("edit in front: numbers", Yards.numbers(x, 0), "3 0 1 2");
        Yards.give(x, 8);
        check.due("edit behind", x.edit(0, 8, 0), 1);
        check.due("edit behind: bytes", Yards.bytes(x, 0), "9 9 1 1 2 2 3 3 8");
        Yards.give(x, 7, 7, 7, 7);
        check.due("edit within", x.edit(0, 4, 3), 2);
        check.due("edit within: bytes", Yards.bytes(x, 0), "9 9 1 1 7 7 7 7 3 8");
        check.due("edit within: numbers", Yards.numbers(x, 0), "3 0 5 5 6");
        Yards.give(x, 6, 6);
        check.due("edit of all", x.edit(0, 0, 10), 1);
        check.due("edit of all: numbers", Yards.numbers(x, 0), "1");
        check.due("edit away", x.edit(0, 0, 2), 0);
        check.due("edit away: all", x.all(0), 0);
        Yards.give(x, 4, 4);
        check.due("edit of an empty file", x.edit(5, 0, 0), 1);
        check.due("edit of an empty file: bytes", Yards.bytes(x, 5), "4 4");
    }

    private void editLimits() {
        CutYard x = new CutYard();
        x.begin(8, 32, 64);
        for (int i = 0; i < 375; i++) {
            x.put(4, i * 77777);
        }
        x.store(0);
        x.put(2, 0);
        check.refused("edit over 1500 bytes", LIMIT, () -> x.edit(0, 700, 1));
        check.refused("edit wrong at the limit", ARGUMENT, () -> x.edit(0, 1500, 1));
        check.due("edit refused", x.size(0), 1500);
        check.due("edit refused: hand", x.all(2), 2);
        x.edit(0, 700, 2);
        check.due("edit to 1500 bytes", x.size(0), 1500);

        CutYard y = new CutYard();
        y.begin(8, 2, 2);
        Yards.give(y, Yards.pairs(0, 200));
        y.store(0);
        check.due("edit to 400 parts with its old ones", y.edit(0, 0, 1), 200);
        check.due("edit: old ones are gone", y.all(0), 200);
        check.due("edit: the first number", y.part(0, 0), 200);
        check.due("edit: the last number", y.part(0, 199), 399);

        CutYard z = new CutYard();
        z.begin(8, 2, 2);
        Yards.give(z, Yards.pairs(0, 201));
        z.store(0);
        check.refused("edit over 400 parts with its old ones", LIMIT, () -> z.edit(0, 0, 1));
        check.due("edit refused: parts", z.all(0), 201);
        check.due("edit refused: bytes", z.all(1), 402);
        check.due("edit refused: size", z.size(0), 402);
        for (int k = 0; k < 201; k++) {
            check.due("edit refused: number " + k, z.part(0, k), k);
        }
        z.put(1, 0);
        z.store(1);
        check.due("edit refused: the least free number", z.part(1, 0), 201);
    }

    private void copy() {
        CutYard x = new CutYard();
        x.begin(8, 2, 2);
        Yards.give(x, 1, 1, 2, 2, 1, 1);
        x.store(0);
        Yards.give(x, 3, 3, 4, 4);
        x.store(1);
        x.put(1, 9);
        x.copy(0, 1);
        check.due("copy: bytes", Yards.bytes(x, 1), "1 1 2 2 1 1");
        check.due("copy: numbers", Yards.numbers(x, 1), "0 1 0");
        check.due("copy: old ones are gone", x.all(0), 2);
        check.due("copy: uses", x.about(0, 1), 4);
        check.due("copy: the hand stays", x.all(2), 1);
        x.copy(0, 0);
        check.due("copy to itself", Yards.numbers(x, 0), "0 1 0");
        check.due("copy to itself: uses", x.about(0, 1), 4);
        x.edit(0, 0, 2);
        check.due("copies live apart", Yards.bytes(x, 1), "1 1 2 2 1 1");
        x.copy(15, 1);
        check.due("copy of an empty file", x.size(1), 0);
        for (int file : NO_FILES) {
            check.refused("copy from " + file, INDEX, () -> copied(x, file, 0));
            check.refused("copy to " + file, INDEX, () -> copied(x, 0, file));
        }
        check.due("copy refused", Yards.bytes(x, 0), "9 2 2 1 1");
    }

    private static Object copied(CutYard x, int from, int to) {
        x.copy(from, to);
        return "nothing";
    }

    private void size() {
        CutYard x = new CutYard();
        Yards.give(x, Yards.squares(100));
        x.store(15);
        check.due("size", x.size(15), 100);
        check.due("size of an empty one", x.size(14), 0);
        for (int file : NO_FILES) {
            check.refused("size(" + file + ")", INDEX, () -> x.size(file));
        }
    }

    private void get() {
        CutYard x = new CutYard();
        int[] row = Yards.squares(100);
        Yards.give(x, row);
        x.store(2);
        for (int k = 0; k < 100; k++) {
            check.due("get " + k, x.get(2, k), row[k]);
        }
        x.put(1, -1);
        x.store(3);
        check.due("get 255", x.get(3, 0), 255);
        for (int k : new int[] {-1, 100, Integer.MIN_VALUE, Integer.MAX_VALUE}) {
            check.refused("get(2, " + k + ")", INDEX, () -> x.get(2, k));
        }
        check.refused("get of an empty file", INDEX, () -> x.get(0, 0));
        for (int file : NO_FILES) {
            check.refused("get(" + file + ")", INDEX, () -> x.get(file, 0));
        }
    }

    private void parts() {
        CutYard x = new CutYard();
        Yards.give(x, Yards.squares(100));
        x.store(2);
        check.due("parts", x.parts(2), 8);
        x.begin(1, 1, 1);
        for (int i = 0; i < 375; i++) {
            x.put(4, 0);
        }
        check.due("1500 parts: one new", x.store(2), 1);
        check.due("1500 parts", x.parts(2), 1500);
        check.due("1500 parts: the last", x.part(2, 1499), 0);
        for (int file : NO_FILES) {
            check.refused("parts(" + file + ")", INDEX, () -> x.parts(file));
        }
    }

    private void part() {
        CutYard x = new CutYard();
        x.begin(8, 2, 2);
        Yards.give(x, 5, 5, 6, 6, 5, 5, 7);
        x.store(4);
        check.due("part numbers", Yards.numbers(x, 4), "0 1 0 2");
        for (int k : new int[] {-1, 4, Integer.MIN_VALUE, Integer.MAX_VALUE}) {
            check.refused("part(4, " + k + ")", INDEX, () -> x.part(4, k));
        }
        check.refused("part of an empty file", INDEX, () -> x.part(0, 0));
        for (int file : NO_FILES) {
            check.refused("part(" + file + ")", INDEX, () -> x.part(file, 0));
        }
    }

    private void about() {
        CutYard x = new CutYard();
        x.begin(8, 2, 2);
        Yards.give(x, 5, 5, 6, 6, 5, 5, 7);
        x.store(4);
        x.copy(4, 9);
        Yards.give(x, 6, 6);
        x.store(0);
        check.due("about bytes", x.about(0, 0) + " " + x.about(1, 0) + " " + x.about(2, 0), "2 2 1");
        check.due("about uses", x.about(0, 1) + " " + x.about(1, 1) + " " + x.about(2, 1), "4 3 2");
        check.due("about files", x.about(0, 2) + " " + x.about(1, 2) + " " + x.about(2, 2), "2 3 2");
        for (int what : new int[] {-1, 3, Integer.MIN_VALUE, Integer.MAX_VALUE}) {
            check.refused("about(0, " + what + ")", ARGUMENT, () -> x.about(0, what));
            check.refused("about(3, " + what + ")", NO_PART, () -> x.about(3, what));
        }
        for (int number : new int[] {-1, 3, 399, 400, Integer.MIN_VALUE, Integer.MAX_VALUE}) {
            check.refused("about(" + number + ", 0)", NO_PART, () -> x.about(number, 0));
        }
        x.store(4);
        x.store(9);
        check.refused("about a part that is gone", NO_PART, () -> x.about(0, 0));
        check.due("about a part that is left", x.about(1, 1), 1);
    }

    private void common() {
        CutYard x = new CutYard();
        x.begin(8, 2, 2);
        Yards.give(x, 5, 5, 6, 6, 5, 5, 7);
        x.store(0);
        Yards.give(x, 8, 8, 5, 5, 7);
        x.store(1);
        check.due("common counts each time", x.common(0, 1), 5);
        check.due("common the other way", x.common(1, 0), 3);
        check.due("common with itself", x.common(0, 0), 7);
        check.due("common with an empty one", x.common(0, 2), 0);
        check.due("common of an empty one", x.common(2, 0), 0);
        for (int file : NO_FILES) {
            check.refused("common(" + file + ", 0)", INDEX, () -> x.common(file, 0));
            check.refused("common(0, " + file + ")", INDEX, () -> x.common(0, file));
        }
    }

    private void all() {
        CutYard x = new CutYard();
        x.begin(8, 2, 2);
        Yards.give(x, 5, 5, 6, 6, 5, 5, 7);
        x.store(0);
        x.copy(0, 1);
        x.put(3, 0);
        check.due("all", x.all(0) + " " + x.all(1) + " " + x.all(2), "3 5 3");
        for (int what : new int[] {-1, 3, Integer.MIN_VALUE, Integer.MAX_VALUE}) {
            check.refused("all(" + what + ")", ARGUMENT, () -> x.all(what));
        }
    }

    private static int[] steps(int many, int step) {
        int[] row = new int[many];
        for (int i = 0; i < many; i++) {
            row[i] = i * step % 256;
        }
        return row;
    }

    private static int[] downwards(int many) {
        int[] row = new int[many];
        for (int i = 0; i < many; i++) {
            row[i] = 255 - i;
        }
        return row;
    }

    /** The lengths of a file's parts if a new object of the default rule stores its bytes. */
    private static String lengthsAnew(CutYard x, int file) {
        int[] row = new int[x.size(file)];
        for (int k = 0; k < row.length; k++) {
            row[k] = x.get(file, k);
        }
        CutYard anew = new CutYard();
        Yards.give(anew, row);
        anew.store(0);
        return Yards.lengths(anew, 0);
    }
}
