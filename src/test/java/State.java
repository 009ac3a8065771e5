import java.util.function.Function;
import java.util.function.Supplier;

/**
 * All that can be learnt of an object's state, as one text: every question's answer, and what the bytes at hand, the
 * rule and the free numbers come to when they are used. An object is good for 512 calls, so it is made anew and anew.
 */
final class State {
    private static final int QUESTIONS = 100;

    private final Supplier<CutYard> made;
    private final StringBuilder text = new StringBuilder();
    private CutYard now;
    private int asked = QUESTIONS;

    private State(Supplier<CutYard> made) {
        this.made = made;
    }

    /** File 8 must be empty, so that copying it makes room. */
    static String of(Supplier<CutYard> made) {
        return answers(made)
            // Into a file by the rule that holds: the rule and the least free number.
            + answers(() -> stored(made.get()))
            // The same with file 2 out of the way, where there was no room.
            + answers(() -> stored(roomier(made.get())))
            // By a rule that has room for all: the bytes at hand.
            + answers(() -> stored(begun(made.get())));
    }

    private static CutYard stored(CutYard x) {
        Check.answer(() -> x.store(9));
        return x;
    }

    private static CutYard roomier(CutYard x) {
        x.copy(8, 2);
        return x;
    }

    private static CutYard begun(CutYard x) {
        x.begin(8, 32, 64);
        return x;
    }

    private static String answers(Supplier<CutYard> made) {
        State state = new State(made);
        for (int what = 0; what < 3; what++) {
            int w = what;
            state.ask(x -> x.all(w));
        }
        for (int number = 0; number < 400; number++) {
            int n = number;
            state.ask(x -> x.about(n, 0));
            state.ask(x -> x.about(n, 1));
            state.ask(x -> x.about(n, 2));
        }
        for (int file = 0; file < 16; file++) {
            int f = file;
            int size = Integer.parseInt(state.ask(x -> x.size(f)));
            int parts = Integer.parseInt(state.ask(x -> x.parts(f)));
            for (int at = 0; at < size; at++) {
                int k = at;
                state.ask(x -> x.get(f, k));
            }
            for (int at = 0; at < parts; at++) {
                int k = at;
                state.ask(x -> x.part(f, k));
            }
        }
        return state.text.toString();
    }

    private String ask(Function<CutYard, Object> question) {
        if (asked == QUESTIONS) {
            now = made.get();
            asked = 0;
        }
        asked++;
        String answer = Check.answer(() -> question.apply(now));
        text.append(answer).append(' ');
        return answer;
    }
}
