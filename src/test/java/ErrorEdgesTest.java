import java.util.function.Consumer;

/**
 * Errors where several apply to one call, or a reason, too; and that they change nothing. Each
 * pair of errors that a call of the face can have at once stands here.
 */
public final class ErrorEdgesTest {
    private static final Check CHECK = new Check("ErrorEdgesTest");

    private interface Call {
        int on(LostZeros x);
    }

    public static void main(String[] args) {
        limits();
        notPossible();
        notFound();
        invalidAheadOfLimit();
        invalidAheadOfNotFound();
        notPossibleWithLimitsReached();
        invalidAheadOfReasons();
        limitAheadOfReasons();
        severalWrongArguments();
        CHECK.end();
    }

    /** The call is due to answer so, and "A call that returns an error changes nothing". */
    private static void error(String name, int want, Consumer<LostZeros> table, Call call) {
        int[] answer = new int[1];
        String then = Views.of(table.andThen(x -> answer[0] = call.on(x)));
        CHECK.due(name, answer[0], want);
        CHECK.dueText(name + ", what it changed", then, Views.of(table));
    }

    /** 8 tapes, 40 readings, a full pad with a fault, a snapshot, four states, and a why. */
    private static void full(LostZeros x) {
        Ready.bringAll(x);
        x.save();
        Ready.put(x, "0a=0");
        x.take();
        Ready.put(x, Ready.TWELVE + ",");
    }

    /** Eight tapes whose readings are at both ends. */
    private static void wide(LostZeros x) {
        Ready.bring(x, 8);
        x.read(0, 0, -999);
        x.read(0, 1, 999);
        x.read(1, 0, 0);
    }

    /** A tape, and nothing else. */
    private static void bare(LostZeros x) {
        Ready.bring(x, 1);
    }

    /** "LIMIT_REACHED = -3: A fixed limit has been reached." */
    private static void limits() {
        error("limit: tape", -3, ErrorEdgesTest::full, LostZeros::tape);
        error("limit: cut", -3, ErrorEdgesTest::full, x -> x.cut(0, 0));
        error("limit: read", -3, ErrorEdgesTest::full, x -> x.read(0, 11, 110));
        error("limit: append", -3, ErrorEdgesTest::full, x -> x.append('0'));
        error("limit: tape, without readings", -3, x -> Ready.bring(x, 8), LostZeros::tape);
        error("limit: append, without tapes", -3, x -> Ready.put(x, Ready.TWELVE + "0"), x -> x.append('0'));
        error("limit: read, five tapes", -3, Ready::bringForty, x -> x.read(4, 11, 0));
    }

    /** "NOT_POSSIBLE = -2: The call is not possible in the present state." */
    private static void notPossible() {
        error("not possible: take, empty pad", -2, ErrorEdgesTest::bare, LostZeros::take);
        error("not possible: take, new", -2, x -> { }, LostZeros::take);
        error("not possible: take, fault", -2, ErrorEdgesTest::full, LostZeros::take);
        error("not possible: restore", -2, ErrorEdgesTest::bare, LostZeros::restore);
        error("not possible: undo", -2, x -> { }, LostZeros::undo);
        error("not possible: undo, a snapshot and a pad", -2, x -> {
            x.save();
            Ready.put(x, "0");
        }, LostZeros::undo);
    }

    /** "NOT_FOUND = -4: There is no such value." */
    private static void notFound() {
        Consumer<LostZeros> one = x -> {
            Ready.bring(x, 2);
            x.read(0, 0, 5);
            Ready.put(x, "0b=5");
        };
        error("not found: fault", -4, one, LostZeros::fault);
        error("not found: why", -4, one, x -> x.why(0));
        error("not found: sign", -4, one, x -> x.sign(0, 4));
        error("not found: reading", -4, one, x -> x.reading(0, 1));
        error("not found: difference, way 0", -4, one, x -> x.difference(0, 1, 0));
        error("not found: difference, way 1", -4, one, x -> x.difference(0, 1, 1));
        error("not found: follows", -4, one, x -> x.follows(0, 1));
        error("not found: zeros", -4, one, x -> x.zeros(0, 1));
        error("not found: tapeOf, least", -4, one, x -> x.tapeOf(1, 1));
        error("not found: tapeOf, greatest", -4, one, x -> x.tapeOf(1, 2));
        error("not found: bestReading", -4, x -> { }, LostZeros::bestReading);
    }

    /** "INVALID_ARGUMENT is returned rather than ... LIMIT_REACHED" */
    private static void invalidAheadOfLimit() {
        Consumer<LostZeros> full = ErrorEdgesTest::full;
        error("invalid or limit: cut, tape", -1, full, x -> x.cut(8, 0));
        error("invalid or limit: cut, tape -1", -1, full, x -> x.cut(-1, 0));
        error("invalid or limit: cut, mark", -1, full, x -> x.cut(0, 1000));
        error("invalid or limit: cut, mark -1000", -1, full, x -> x.cut(0, -1000));
        error("invalid or limit: read, tape", -1, full, x -> x.read(8, 0, 0));
        error("invalid or limit: read, tape -1", -1, full, x -> x.read(-1, 0, 0));
        error("invalid or limit: read, point", -1, full, x -> x.read(0, 12, 0));
        error("invalid or limit: read, point -1", -1, full, x -> x.read(0, -1, 0));
        error("invalid or limit: read, number", -1, full, x -> x.read(0, 0, 1000));
        error("invalid or limit: read, number -1000", -1, full, x -> x.read(0, 0, -1000));
        error("invalid or limit: append, 32", -1, full, x -> x.append(32));
        error("invalid or limit: append, 127", -1, full, x -> x.append(127));
    }

    /** "INVALID_ARGUMENT is returned rather than ... NOT_FOUND" */
    private static void invalidAheadOfNotFound() {
        Consumer<LostZeros> bare = ErrorEdgesTest::bare;
        error("invalid or not found: why", -1, bare, x -> x.why(3));
        error("invalid or not found: why, -1", -1, bare, x -> x.why(-1));
        error("invalid or not found: sign, place", -1, bare, x -> x.sign(0, -1));
        error("invalid or not found: sign, tape", -1, bare, x -> x.sign(1, 0));
        error("invalid or not found: reading, tape", -1, bare, x -> x.reading(1, 0));
        error("invalid or not found: reading, point", -1, bare, x -> x.reading(0, 12));
        error("invalid or not found: difference, from", -1, bare, x -> x.difference(12, 0, 0));
        error("invalid or not found: difference, to", -1, bare, x -> x.difference(0, 12, 1));
        error("invalid or not found: difference, way", -1, bare, x -> x.difference(0, 1, 2));
        error("invalid or not found: difference, way -1", -1, bare, x -> x.difference(0, 1, -1));
        error("invalid or not found: follows, tape", -1, bare, x -> x.follows(1, 0));
        error("invalid or not found: follows, point", -1, bare, x -> x.follows(0, 12));
        error("invalid or not found: zeros, tape", -1, bare, x -> x.zeros(1, 0));
        error("invalid or not found: zeros, other", -1, bare, x -> x.zeros(0, 1));
        error("invalid or not found: tapeOf, tape", -1, bare, x -> x.tapeOf(1, 1));
        error("invalid or not found: tapeOf, greatest", -1, bare, x -> x.tapeOf(1, 2));
        error("invalid or not found: tapeOf, what", -1, bare, x -> x.tapeOf(0, 5));
    }

    /** "NOT_POSSIBLE rather than LIMIT_REACHED": a pad with a fault, and no tape or reading fits. */
    private static void notPossibleWithLimitsReached() {
        error("not possible or limit: a full pad", -2, ErrorEdgesTest::full, LostZeros::take);
        error("not possible or limit: an empty pad", -2, Ready::bringAll, LostZeros::take);
        error("not possible or limit: no snapshot", -2, Ready::bringAll, LostZeros::restore);
        error("not possible or limit: no such tape in a pad with a fault", -2, x -> {
            Ready.bringForty(x);
            Ready.put(x, "7a=1,4l=1,");
        }, LostZeros::take);
    }

    /** "errors are looked at ahead of reasons": INVALID_ARGUMENT ahead of each of 1 to 5. */
    private static void invalidAheadOfReasons() {
        Consumer<LostZeros> wide = ErrorEdgesTest::wide;
        error("invalid or 1: read", -1, wide, x -> x.read(0, 0, 1000));
        error("invalid or 2: read", -1, wide, x -> x.read(1, 1, 1998));
        error("invalid or 3: lose, point", -1, wide, x -> x.lose(1, 12));
        error("invalid or 3: lose, tape", -1, wide, x -> x.lose(8, 5));
        error("invalid or 4: shift", -1, wide, x -> x.shift(0, 1000));
        error("invalid or 4: shift, down", -1, wide, x -> x.shift(0, -1000));
        error("invalid or 4: cut", -1, wide, x -> x.cut(0, -1000));
        error("invalid or 5: glue, the same", -1, wide, x -> x.glue(2, 2));
        error("invalid or 5: glue, the same that has readings", -1, wide, x -> x.glue(0, 0));
        error("invalid or 5: glue, other", -1, wide, x -> x.glue(2, 8));
        error("invalid or 5: glue, tape", -1, wide, x -> x.glue(8, 2));
        error("invalid or 1: whyNot", -1, wide, x -> x.whyNot(0, 0, 1000));
        error("invalid or 2: whyNot", -1, wide, x -> x.whyNot(1, 1, 1998));
    }

    /** "errors are looked at ahead of reasons": LIMIT_REACHED ahead of 1, 2 and 4. */
    private static void limitAheadOfReasons() {
        Consumer<LostZeros> full = ErrorEdgesTest::full;
        error("limit or 1: read", -3, full, x -> x.read(0, 0, 0));
        error("limit or 2: read", -3, full, x -> x.read(0, 11, 0));
        error("limit or 1 and 2: read", -3, full, x -> x.read(0, 0, 1));
        error("limit or 4: cut", -3, ErrorEdgesTest::wide, x -> x.cut(0, -999));
        error("limit, no reason: cut", -3, ErrorEdgesTest::wide, x -> x.cut(7, 0));
    }

    /** Several arguments are wrong at once, by far. */
    private static void severalWrongArguments() {
        int[] wrong = {-1, 1000000, Integer.MIN_VALUE, Integer.MAX_VALUE};
        for (int each : wrong) {
            Consumer<LostZeros> full = ErrorEdgesTest::full;
            error("all wrong: shift", -1, full, x -> x.shift(each, each * 2 + 7000));
            error("all wrong: cut", -1, full, x -> x.cut(each, 7000));
            error("all wrong: glue", -1, full, x -> x.glue(each, each));
            error("all wrong: read", -1, full, x -> x.read(each, each, 7000));
            error("all wrong: lose", -1, full, x -> x.lose(each, each));
            error("all wrong: sign", -1, full, x -> x.sign(each, -1));
            error("all wrong: reading", -1, full, x -> x.reading(each, each));
            error("all wrong: difference", -1, full, x -> x.difference(each, each, each));
            error("all wrong: follows", -1, full, x -> x.follows(each, each));
            error("all wrong: zeros", -1, full, x -> x.zeros(each, each));
            error("all wrong: whyNot", -1, full, x -> x.whyNot(each, each, 7000));
            error("all wrong: point", -1, full, x -> x.point(each, each));
            error("all wrong: tapeOf", -1, full, x -> x.tapeOf(each, each));
            error("all wrong: ifRead", -1, full, x -> x.ifRead(each, each));
        }
    }
}
