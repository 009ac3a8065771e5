import java.util.NoSuchElementException;
import java.util.function.Function;
import java.util.function.Supplier;

/** "A call that throws changes nothing.": every exception of every call, with all that can be learnt of the state. */
public final class RefusalsTest {
    private static final Class<IllegalArgumentException> ARGUMENT = IllegalArgumentException.class;
    private static final Class<IndexOutOfBoundsException> INDEX = IndexOutOfBoundsException.class;
    private static final Class<UnsupportedOperationException> LIMIT = UnsupportedOperationException.class;
    private static final Class<NoSuchElementException> NO_PART = NoSuchElementException.class;

    private final Check check = new Check();
    private Supplier<CutYard> scene;
    private String before;

    private RefusalsTest() {
    }

    public static void main(String[] args) {
        RefusalsTest test = new RefusalsTest();
        test.wrongArguments(RefusalsTest::noFiles, "no files");
        test.wrongArguments(RefusalsTest::someFiles, "some files");
        test.fullHand();
        test.fullFile();
        test.fullStock();
        test.stockThatFillsUp();
        test.check.end();
    }

    private void wrongArguments(Supplier<CutYard> made, String name) {
        set(made);
        int[][] rules = {{0, 1, 5}, {9, 1, 5}, {2, 0, 5}, {2, 33, 64}, {2, 6, 5}, {2, 6, 65}};
        for (int[] r : rules) {
            stays(name + ": begin", ARGUMENT, x -> {
                x.begin(r[0], r[1], r[2]);
                return "begun";
            });
        }
        for (int many : new int[] {0, 5, -1, Integer.MAX_VALUE}) {
            stays(name + ": put", ARGUMENT, x -> x.put(many, -1));
        }
        for (int file : new int[] {-1, 16}) {
            wrongFile(name, file);
        }
        stays(name + ": edit at -1", ARGUMENT, x -> x.edit(0, -1, 1));
        stays(name + ": edit behind the end", ARGUMENT, x -> x.edit(0, x.size(0) + 1, 0));
        stays(name + ": edit over the end", ARGUMENT, x -> x.edit(0, x.size(0), 1));
        stays(name + ": edit for -1", ARGUMENT, x -> x.edit(0, 0, -1));
        stays(name + ": edit for the most", ARGUMENT, x -> x.edit(0, 1, Integer.MAX_VALUE));
        stays(name + ": get", INDEX, x -> x.get(0, x.size(0)));
        stays(name + ": part", INDEX, x -> x.part(0, x.parts(0)));
        stays(name + ": about a part", NO_PART, x -> x.about(CutYard.NONE, 0));
        stays(name + ": about a part", NO_PART, x -> x.about(399, 3));
        stays(name + ": all", ARGUMENT, x -> x.all(3));
    }

    private void wrongFile(String name, int file) {
        stays(name + ": store", INDEX, x -> x.store(file));
        stays(name + ": edit", INDEX, x -> x.edit(file, 0, 0));
        stays(name + ": copy from", INDEX, x -> copied(x, file, 3));
        stays(name + ": copy to", INDEX, x -> copied(x, 3, file));
        stays(name + ": size", INDEX, x -> x.size(file));
        stays(name + ": get", INDEX, x -> x.get(file, 0));
        stays(name + ": parts", INDEX, x -> x.parts(file));
        stays(name + ": part", INDEX, x -> x.part(file, 0));
        stays(name + ": common of", INDEX, x -> x.common(file, 3));
        stays(name + ": common with", INDEX, x -> x.common(3, file));
    }

    private void fullHand() {
        for (int room = 0; room < 4; room++) {
            int left = room;
            set(() -> {
                CutYard x = new CutYard();
                Yards.give(x, Yards.squares(1500 - left));
                return x;
            });
            for (int many = room + 1; many <= 4; many++) {
                int more = many;
                stays("a full hand: put " + many, LIMIT, x -> x.put(more, -1));
            }
        }
    }

    private void fullFile() {
        set(() -> {
            CutYard x = new CutYard();
            Yards.give(x, Yards.squares(1499));
            x.store(2);
            Yards.give(x, 1, 2, 3, 4, 5);
            return x;
        });
        stays("a full file: edit at 0", LIMIT, x -> x.edit(2, 0, 0));
        stays("a full file: edit for 3", LIMIT, x -> x.edit(2, 700, 3));
        stays("a full file: edit at the end", LIMIT, x -> x.edit(2, 1499, 0));
    }

    private void fullStock() {
        set(() -> {
            CutYard x = Yards.ofPairs();
            Yards.give(x, Yards.pairs(0, 200));
            x.store(0);
            Yards.give(x, Yards.pairs(200, 400));
            x.store(2);
            Yards.give(x, 0, 200, 250, 250, 1, 200);
            return x;
        });
        stays("400 parts: store over old ones", LIMIT, x -> x.store(0));
        stays("400 parts: store", LIMIT, x -> x.store(1));
        stays("400 parts: edit", LIMIT, x -> x.edit(0, 6, 4));
        stays("400 parts: edit of an empty file", LIMIT, x -> x.edit(9, 0, 0));
    }

    /** The refusal comes when some new parts have numbers already, the gaps' too, and some uses have been counted. */
    private void stockThatFillsUp() {
        set(() -> {
            CutYard x = Yards.ofPairs();
            Yards.give(x, Yards.pairs(0, 100));
            x.store(0);
            Yards.give(x, Yards.pairs(100, 201));
            x.store(2);
            x.edit(0, 20, 30);
            x.copy(0, 1);
            x.edit(2, 60, 20);
            Yards.give(x, Yards.pairs(50, 140));
            Yards.give(x, Yards.pairs(300, 530));
            return x;
        });
        stays("no room on the way: store", LIMIT, x -> x.store(3));
        stays("no room on the way: store over old ones", LIMIT, x -> x.store(0));
        stays("no room on the way: store over the numbers behind", LIMIT, x -> x.store(2));
        stays("no room on the way: edit", LIMIT, x -> x.edit(1, 100, 20));
        stays("no room on the way: edit that shifts all", LIMIT, x -> x.edit(1, 1, 0));
    }

    private void set(Supplier<CutYard> made) {
        scene = made;
        before = State.of(made);
    }

    /** The call is refused as it must be, and an object that it was made of is as one that it wasn't. */
    private void stays(String name, Class<? extends RuntimeException> want, Function<CutYard, Object> call) {
        CutYard once = scene.get();
        check.refused(name, want, () -> call.apply(once));
        String behind = State.of(() -> {
            CutYard x = scene.get();
            Check.answer(() -> call.apply(x));
            return x;
        });
        check.due(name + " is refused, and nothing has changed", behind.equals(before), true);
    }

    private static CutYard noFiles() {
        CutYard x = new CutYard();
        giveTelling(x);
        return x;
    }

    /** Bytes at hand that another rule would cut elsewhere: some by the sum, and a row that only most ends. */
    private static void giveTelling(CutYard x) {
        Yards.give(x, Yards.squares(60));
        Yards.give(x, Yards.same(70, 88));
    }

    private static CutYard someFiles() {
        CutYard x = Yards.ruled(3, 2, 9);
        Yards.give(x, Yards.squares(60));
        x.store(0);
        x.copy(0, 3);
        x.put(2, 0x1234);
        x.edit(3, 31, 4);
        Yards.give(x, Yards.pairs(0, 9));
        x.store(15);
        x.edit(0, 10, 10);
        giveTelling(x);
        return x;
    }

    private static Object copied(CutYard x, int from, int to) {
        x.copy(from, to);
        return "copied";
    }
}
