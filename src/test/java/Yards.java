import java.util.Arrays;

/** What the tests give to a yard, and what they read from it as text. */
final class Yards {
    private Yards() {
    }

    /** Puts a row of bytes at hand, by one call for each four of them. */
    static void give(CutYard x, int... row) {
        for (int i = 0; i < row.length; i += 4) {
            int many = Math.min(4, row.length - i);
            int v = 0;
            for (int j = many - 1; j >= 0; j--) {
                v = v << 8 | row[i + j];
            }
            x.put(many, v);
        }
    }

    /** A new yard of this rule. */
    static CutYard ruled(int bits, int least, int most) {
        CutYard x = new CutYard();
        x.begin(bits, least, most);
        return x;
    }

    /** A new yard in which each two bytes of a file are a part, whatever they are. */
    static CutYard ofPairs() {
        return ruled(8, 2, 2);
    }

    /** Pairs of bytes, no two alike. */
    static int[] pairs(int from, int to) {
        int[] row = new int[2 * (to - from)];
        for (int i = from; i < to; i++) {
            row[2 * (i - from)] = i % 200;
            row[2 * (i - from) + 1] = 200 + i / 200;
        }
        return row;
    }

    static int[] squares(int many) {
        int[] row = new int[many];
        for (int i = 0; i < many; i++) {
            row[i] = i * i % 256;
        }
        return row;
    }

    static int[] same(int many, int b) {
        int[] row = new int[many];
        Arrays.fill(row, b);
        return row;
    }

    static String lengths(CutYard x, int file) {
        StringBuilder text = new StringBuilder();
        for (int k = 0; k < x.parts(file); k++) {
            text.append(k == 0 ? "" : " ").append(x.about(x.part(file, k), 0));
        }
        return text.toString();
    }

    static String numbers(CutYard x, int file) {
        StringBuilder text = new StringBuilder();
        for (int k = 0; k < x.parts(file); k++) {
            text.append(k == 0 ? "" : " ").append(x.part(file, k));
        }
        return text.toString();
    }

    static String bytes(CutYard x, int file) {
        StringBuilder text = new StringBuilder();
        for (int k = 0; k < x.size(file); k++) {
            text.append(k == 0 ? "" : " ").append(x.get(file, k));
        }
        return text.toString();
    }
}
