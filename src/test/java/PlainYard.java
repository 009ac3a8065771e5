import java.util.ArrayList;
import java.util.HashSet;
import java.util.List;
import java.util.NoSuchElementException;
import java.util.Set;
import java.util.TreeMap;

/** The document's words, written as plainly and as slowly as they come: what CutYard is held against. */
final class PlainYard {
    private int bits = 4;
    private int least = 4;
    private int most = 32;
    private String hand = "";
    private final String[] files = new String[16];
    private final List<List<String>> cut = new ArrayList<>();
    private final TreeMap<Integer, String> numbers = new TreeMap<>();

    PlainYard() {
        for (int f = 0; f < 16; f++) {
            files[f] = "";
            cut.add(new ArrayList<>());
        }
    }

    void begin(int newBits, int newLeast, int newMost) {
        if (newBits < 1 || newBits > 8 || newLeast < 1 || newLeast > 32 || newMost < newLeast || newMost > 64) {
            throw new IllegalArgumentException();
        }
        bits = newBits;
        least = newLeast;
        most = newMost;
        for (int f = 0; f < 16; f++) {
            files[f] = "";
            cut.set(f, new ArrayList<>());
        }
        numbers.clear();
    }

    int put(int many, int v) {
        if (many < 1 || many > 4) {
            throw new IllegalArgumentException();
        }
        if (hand.length() + many > 1500) {
            throw new UnsupportedOperationException();
        }
        long rest = v & 0xffffffffL;
        for (int i = 0; i < many; i++) {
            hand += (char) (rest % 256);
            rest /= 256;
        }
        return hand.length();
    }

    int store(int file) {
        mustBeFile(file);
        return become(file, hand);
    }

    int edit(int file, int at, int drop) {
        mustBeFile(file);
        String old = files[file];
        if (at < 0 || drop < 0 || (long) at + drop > old.length()) {
            throw new IllegalArgumentException();
        }
        String now = old.substring(0, at) + hand + old.substring(at + drop);
        if (now.length() > 1500) {
            throw new UnsupportedOperationException();
        }
        return become(file, now);
    }

    void copy(int from, int to) {
        mustBeFile(from);
        mustBeFile(to);
        files[to] = files[from];
        cut.set(to, new ArrayList<>(cut.get(from)));
        dropUnused();
    }

    int size(int file) {
        mustBeFile(file);
        return files[file].length();
    }

    int get(int file, int k) {
        mustBeFile(file);
        if (k < 0 || k >= files[file].length()) {
            throw new IndexOutOfBoundsException();
        }
        return files[file].charAt(k);
    }

    int parts(int file) {
        mustBeFile(file);
        return cut.get(file).size();
    }

    int part(int file, int k) {
        mustBeFile(file);
        if (k < 0 || k >= cut.get(file).size()) {
            throw new IndexOutOfBoundsException();
        }
        return numberOf(cut.get(file).get(k));
    }

    int about(int part, int what) {
        String bytes = numbers.get(part);
        if (bytes == null) {
            throw new NoSuchElementException();
        }
        if (what < 0 || what > 2) {
            throw new IllegalArgumentException();
        }
        int uses = 0;
        int in = 0;
        for (List<String> file : cut) {
            for (String p : file) {
                uses += p.equals(bytes) ? 1 : 0;
            }
            in += file.contains(bytes) ? 1 : 0;
        }
        return what == 0 ? bytes.length() : what == 1 ? uses : in;
    }

    int common(int file, int other) {
        mustBeFile(file);
        mustBeFile(other);
        int bytes = 0;
        for (String p : cut.get(file)) {
            bytes += cut.get(other).contains(p) ? p.length() : 0;
        }
        return bytes;
    }

    int all(int what) {
        if (what < 0 || what > 2) {
            throw new IllegalArgumentException();
        }
        if (what == 0) {
            return numbers.size();
        }
        if (what == 2) {
            return hand.length();
        }
        int bytes = 0;
        for (String p : numbers.values()) {
            bytes += p.length();
        }
        return bytes;
    }

    private static void mustBeFile(int file) {
        if (file < 0 || file > 15) {
            throw new IndexOutOfBoundsException();
        }
    }

    private int become(int file, String bytes) {
        List<String> now = cutUp(bytes);
        Set<String> fresh = new HashSet<>(now);
        fresh.removeAll(numbers.values());
        if (numbers.size() + fresh.size() > 400) {
            throw new UnsupportedOperationException();
        }
        for (String p : now) {
            if (!numbers.containsValue(p)) {
                int number = 0;
                while (numbers.containsKey(number)) {
                    number++;
                }
                numbers.put(number, p);
            }
        }
        files[file] = bytes;
        cut.set(file, now);
        dropUnused();
        hand = "";
        return fresh.size();
    }

    private void dropUnused() {
        Set<String> used = new HashSet<>();
        for (List<String> file : cut) {
            used.addAll(file);
        }
        numbers.values().removeIf(p -> !used.contains(p));
    }

    private int numberOf(String bytes) {
        for (int number : numbers.keySet()) {
            if (numbers.get(number).equals(bytes)) {
                return number;
            }
        }
        return -1;
    }

    private List<String> cutUp(String row) {
        List<String> out = new ArrayList<>();
        String now = "";
        for (int i = 0; i < row.length(); i++) {
            now += row.charAt(i);
            boolean sumSays = Integer.remainderUnsigned(sum(now), 1 << bits) == 0;
            if (now.length() >= least && sumSays || now.length() == most || i == row.length() - 1) {
                out.add(now);
                now = "";
            }
        }
        return out;
    }

    private static int sum(String row) {
        int sum = 0;
        for (int back = 0; back < 8 && back < row.length(); back++) {
            int x = (row.charAt(row.length() - 1 - back) + 1) * -1640531527;
            sum ^= Integer.rotateLeft(x ^ (x >>> 15), back);
        }
        return sum;
    }
}
