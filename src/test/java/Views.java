import java.util.function.Consumer;

/**
 * All that can be learnt of a table by its answers: as it is, after each undo, after restore, and
 * after take. Each view is of an object of its own, as an object is used for at most 512 calls.
 */
final class Views {
    private Views() {
    }

    static String of(Consumer<LostZeros> run) {
        StringBuilder text = new StringBuilder();
        for (int undos = 0; undos <= 5; undos++) {
            LostZeros x = Ready.after(run);
            for (int undo = 0; undo < undos; undo++) {
                text.append(" undo ").append(x.undo());
            }
            text.append(now(x));
        }
        LostZeros restored = Ready.after(run);
        text.append(" restore ").append(restored.restore()).append(now(restored));
        LostZeros taken = Ready.after(run);
        text.append(" take ").append(taken.take()).append(now(taken));
        return text.toString();
    }

    /** What all looks at the state tell; the readings tell the rest of them. */
    static String now(LostZeros x) {
        StringBuilder text = new StringBuilder(state(x)).append(" why");
        for (int what = 0; what < 3; what++) {
            text.append(' ').append(x.why(what));
        }
        text.append(" pad ").append(x.count(12)).append(' ').append(x.fault());
        return text.append(" states ").append(x.count(13)).append('\n').toString();
    }

    /** All that undo and restore bring back. */
    static String state(LostZeros x) {
        int tapes = x.count(0);
        StringBuilder text = new StringBuilder(" tapes ").append(tapes);
        for (int tape = 0; tape < tapes; tape++) {
            text.append(" |");
            for (int point = 0; point < 12; point++) {
                text.append(' ').append(x.reading(tape, point));
            }
        }
        text.append(" counted");
        for (int what = 8; what <= 11; what++) {
            text.append(' ').append(x.count(what));
        }
        return text.toString();
    }
}
