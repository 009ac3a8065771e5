import java.util.Map;
import java.util.Random;
import java.util.TreeMap;

/** Runs of at most 512 calls from a fixed seed, each answer held against PlainYard's. */
public final class RandomRunsTest {
    private static final int RUNS = 1200;
    private static final int CALLS = 512;

    private final Check check;
    private final Map<String, Integer> refusals;
    private final Random random;
    private final CutYard yard = new CutYard();
    private final PlainYard plain = new PlainYard();
    private final int letters;
    private final int fileSpan;
    private final int run;

    private RandomRunsTest(int run, Check check, Map<String, Integer> refusals) {
        this.run = run;
        this.check = check;
        this.refusals = refusals;
        random = new Random(run);
        letters = new int[] {1, 2, 3, 16, 256}[random.nextInt(5)];
        fileSpan = 2 + random.nextInt(15);
    }

    public static void main(String[] args) {
        Check check = new Check();
        Map<String, Integer> refusals = new TreeMap<>();
        for (int run = 0; run < RUNS; run++) {
            new RandomRunsTest(run, check, refusals).go();
        }
        mustHaveMet(check, refusals);
        check.end();
    }

    /** A run that never comes to a limit would prove nothing about it. */
    private static void mustHaveMet(Check check, Map<String, Integer> refusals) {
        for (String one : new String[] {"begin throws.IllegalArgumentException",
            "put throws.IllegalArgumentException", "put throws.UnsupportedOperationException",
            "store throws.IndexOutOfBoundsException", "store throws.UnsupportedOperationException",
            "edit throws.IndexOutOfBoundsException", "edit throws.IllegalArgumentException",
            "edit throws.UnsupportedOperationException", "copy throws.IndexOutOfBoundsException",
            "get throws.IndexOutOfBoundsException", "part throws.IndexOutOfBoundsException",
            "about throws.NoSuchElementException", "about throws.IllegalArgumentException",
            "common throws.IndexOutOfBoundsException", "all throws.IllegalArgumentException"}) {
            check.due("met: " + one, refusals.getOrDefault(one, 0) > 0, true);
        }
    }

    private void go() {
        int calls = 0;
        if (random.nextInt(4) != 0) {
            begin();
            calls++;
        }
        if (random.nextInt(2) == 0) {
            int many = 50 + random.nextInt(340);
            for (int i = 0; i < many; i++) {
                put(4);
            }
            calls += many;
        }
        for (; calls < CALLS; calls++) {
            oneCall();
        }
    }

    private void oneCall() {
        int pick = random.nextInt(100);
        if (pick < 20) {
            put(random.nextInt(20) == 0 ? random.nextInt(9) - 2 : 1 + random.nextInt(4));
        } else if (pick < 27) {
            int f = file();
            same("store", "store(" + f + ")", () -> yard.store(f), () -> plain.store(f));
        } else if (pick < 47) {
            edit();
        } else if (pick < 52) {
            int f = file();
            int g = file();
            same("copy", "copy(" + f + ", " + g + ")", () -> none(() -> yard.copy(f, g)),
                () -> none(() -> plain.copy(f, g)));
        } else if (pick == 52 && random.nextInt(6) == 0) {
            begin();
        } else {
            question();
        }
    }

    private void begin() {
        boolean tight = random.nextInt(2) == 0;
        int bits = 1 + random.nextInt(8);
        int least = 1 + random.nextInt(tight ? 3 : 32);
        int most = tight ? least + random.nextInt(3) : least + random.nextInt(65 - least);
        int slip = random.nextInt(12);
        int b = slip == 0 ? random.nextInt(2) * 9 : bits;
        int l = slip == 1 ? random.nextInt(2) * 33 : least;
        int m = slip == 2 ? least - 1 : slip == 3 ? 65 : most;
        same("begin", "begin(" + b + ", " + l + ", " + m + ")", () -> none(() -> yard.begin(b, l, m)),
            () -> none(() -> plain.begin(b, l, m)));
    }

    private void put(int many) {
        int v = 0;
        for (int i = 0; i < 4; i++) {
            v = v << 8 | random.nextInt(letters);
        }
        int bytes = v;
        same("put", "put(" + many + ", " + v + ")", () -> yard.put(many, bytes), () -> plain.put(many, bytes));
    }

    private void edit() {
        int f = file();
        int size = f >= 0 && f < 16 ? plain.size(f) : 0;
        int at = random.nextInt(3) == 0 ? 0 : random.nextInt(size + 1);
        int drop = random.nextInt(2) == 0 ? Math.min(size - at, random.nextInt(6)) : random.nextInt(size - at + 1);
        int slip = random.nextInt(30);
        int a = slip == 0 ? size + 1 : slip == 1 ? -1 : slip == 2 ? Integer.MAX_VALUE : at;
        int d = slip == 3 ? size - at + 1 : slip == 4 ? -1 : slip == 5 ? Integer.MAX_VALUE : drop;
        same("edit", "edit(" + f + ", " + a + ", " + d + ")", () -> yard.edit(f, a, d), () -> plain.edit(f, a, d));
    }

    private void question() {
        int f = file();
        int g = file();
        boolean real = f >= 0 && f < 16;
        int byteAt = random.nextInt(real ? plain.size(f) + 3 : 3) - 1;
        int partAt = random.nextInt(real ? plain.parts(f) + 3 : 3) - 1;
        int number = random.nextInt(plain.all(0) + 4) - 1;
        int what = random.nextInt(20) == 0 ? random.nextInt(5) - 1 : random.nextInt(3);
        switch (random.nextInt(8)) {
            case 0 -> same("size", "size(" + f + ")", () -> yard.size(f), () -> plain.size(f));
            case 1 -> same("get", "get(" + f + ", " + byteAt + ")", () -> yard.get(f, byteAt),
                () -> plain.get(f, byteAt));
            case 2 -> same("parts", "parts(" + f + ")", () -> yard.parts(f), () -> plain.parts(f));
            case 3, 4 -> same("part", "part(" + f + ", " + partAt + ")", () -> yard.part(f, partAt),
                () -> plain.part(f, partAt));
            case 5 -> same("about", "about(" + number + ", " + what + ")", () -> yard.about(number, what),
                () -> plain.about(number, what));
            case 6 -> same("common", "common(" + f + ", " + g + ")", () -> yard.common(f, g),
                () -> plain.common(f, g));
            default -> same("all", "all(" + what + ")", () -> yard.all(what), () -> plain.all(what));
        }
    }

    private int file() {
        return random.nextInt(40) == 0 ? random.nextInt(2) * 17 - 1 : random.nextInt(Math.min(16, fileSpan));
    }

    private void same(String name, String call, Check.Call real, Check.Call due) {
        String want = Check.answer(due);
        check.due("run " + run + ": " + call, Check.answer(real), want);
        if (want.startsWith("throws.")) {
            refusals.merge(name + " " + want, 1, Integer::sum);
        }
    }

    private static Object none(Runnable call) {
        call.run();
        return "nothing";
    }
}
