import java.util.function.Consumer;

/**
 * Each range that the document names, of each argument of each call: its two ends with their
 * answers, and what is outside of it, one below and one above and far away, each INVALID_ARGUMENT,
 * by which nothing is changed.
 */
public final class RangeTest {
    private static final Check CHECK = new Check("RangeTest");

    private interface Call {
        int with(LostZeros x, int argument);
    }

    /** The table on which the calls are tried. */
    private static Consumer<LostZeros> table;

    public static void main(String[] args) {
        table = RangeTest::threeTapes;
        tapesOfDeeds();
        pointsOfDeeds();
        numbersOfDeeds();
        codes();
        whatOfWhy();
        placesOfSigns();
        tapesOfLooks();
        pointsOfLooks();
        waysAndWhats();
        noTapes();
        eightTapes();
        oneOfEightGone();
        oneOfEightGlued();
        CHECK.end();
    }

    /** The points 0, 1 and 11 stand at 0, 5 and 1998, the zeros of the tapes 0 and 2 at 999 and 0. */
    private static void threeTapes(LostZeros x) {
        Ready.bring(x, 3);
        x.read(0, 0, -999);
        x.read(0, 11, 999);
        x.read(2, 0, 0);
        x.read(2, 1, 5);
        x.save();
        Ready.put(x, "1c=1,0a=1,1d=1");
        x.take();
        x.undo();
        x.tape();
        x.drop(3);
        Ready.put(x, "1c=-99");
    }

    private static void range(String name, int low, int atLow, int high, int atHigh, Call call) {
        CHECK.due(name + " at its low end, " + low, call.with(Ready.after(table), low), atLow);
        CHECK.due(name + " at its high end, " + high, call.with(Ready.after(table), high), atHigh);
        outside(name, low, high, call);
    }

    private static void outside(String name, int low, int high, Call call) {
        String before = Views.of(table);
        int[] below = {low - 1, low - 256, low - 65536, Integer.MIN_VALUE, Integer.MIN_VALUE + 1};
        for (int argument : below) {
            refused(name, argument, call, before);
        }
        // From the greatest number on there is none above.
        int[] above = {1, 256, 65536, Integer.MAX_VALUE - Math.max(high, 0)};
        for (int more : above) {
            if (high < Integer.MAX_VALUE) {
                refused(name, high + more, call, before);
            }
        }
    }

    private static void refused(String name, int argument, Call call, String before) {
        int[] answer = new int[1];
        String then = Views.of(x -> {
            table.accept(x);
            answer[0] = call.with(x, argument);
        });
        CHECK.due(name + " outside, " + argument, answer[0], LostZeros.INVALID_ARGUMENT);
        CHECK.dueText(name + " outside, " + argument + ", what it changed", then, before);
    }

    /** "INVALID_ARGUMENT: ... or there is no such tape": of drop, shift, cut, glue, read and lose. */
    private static void tapesOfDeeds() {
        range("drop: tape", 0, 2, 2, 2, (x, tape) -> x.drop(tape));
        range("shift: tape", 0, 12, 2, 12, (x, tape) -> x.shift(tape, 0));
        range("cut: tape", 0, 11, 2, 10, (x, tape) -> x.cut(tape, 999));
        range("glue: tape", 0, 5, 2, 5, (x, tape) -> x.glue(tape, 1));
        range("glue: other", 0, 5, 2, 5, (x, other) -> x.glue(1, other));
        range("read: tape", 0, 15, 2, 15, (x, tape) -> x.read(tape, 5, 7));
        range("lose: tape", 0, 13, 2, 13, (x, tape) -> x.lose(tape, 0));
    }

    /** "point: 0 to 11", of read and lose. */
    private static void pointsOfDeeds() {
        range("read: point", 0, 15, 11, 15, (x, point) -> x.read(1, point, 7));
        range("lose: point", 0, 13, 11, 13, (x, point) -> x.lose(0, point));
    }

    /** "-999 to 999", of shift, cut and read. */
    private static void numbersOfDeeds() {
        range("shift: by", -999, 10, 999, 10, (x, by) -> x.shift(1, by));
        range("shift: by, where it is refused", -999, 4, 999, 4, (x, by) -> x.shift(0, by));
        range("cut: mark", -999, 4, 999, 11, (x, mark) -> x.cut(0, mark));
        range("cut: mark, without readings", -999, 10, 999, 10, (x, mark) -> x.cut(1, mark));
        range("read: number", -999, 15, 999, 15, (x, number) -> x.read(1, 0, number));
        range("read: number, where one is", -999, 1, 999, 1, (x, number) -> x.read(0, 0, number));
    }

    /** "code: the character code, 33 to 126", of append. */
    private static void codes() {
        range("append: code", 33, 7, 126, 7, (x, code) -> x.append(code));
    }

    /** "what: 0: ...; 1: ...; 2: ...", of why, after a take that stopped, and without one. */
    private static void whatOfWhy() {
        range("why: what", 0, 1, 2, 5, (x, what) -> x.why(what));
        table = x -> Ready.bring(x, 1);
        range("why: what, without a stop", 0, -4, 2, -4, (x, what) -> x.why(what));
        table = RangeTest::threeTapes;
    }

    /** "place: from 0", "INVALID_ARGUMENT (also if place is below 0)", of sign. */
    private static void placesOfSigns() {
        range("sign: place", 0, '0', Integer.MAX_VALUE, -4, (x, place) -> x.sign(0, place));
        range("sign: place, no text", 0, -4, Integer.MAX_VALUE, -4, (x, place) -> x.sign(1, place));
        range("sign: tape", 0, '0', 2, '2', (x, tape) -> x.sign(tape, 0));
    }

    private static void tapesOfLooks() {
        range("reading: tape", 0, 99001, 2, 100000, (x, tape) -> x.reading(tape, 0));
        range("follows: tape", 0, 99006, 2, 100005, (x, tape) -> x.follows(tape, 1));
        range("zeros: tape", 0, 100000, 2, 100999, (x, tape) -> x.zeros(tape, 0));
        range("zeros: other", 0, 100000, 2, 99001, (x, other) -> x.zeros(0, other));
        range("zeros: both", 0, 100000, 2, 100000, (x, tape) -> x.zeros(tape, tape));
        range("whyNot: tape", 0, 1, 2, 1, (x, tape) -> x.whyNot(tape, 0, 7));
        range("tapeOf: tape", 0, 2, 2, 2, (x, tape) -> x.tapeOf(tape, 0));
        range("ifRead: tape", 0, 3, 2, 3, (x, tape) -> x.ifRead(tape, 5));
    }

    private static void pointsOfLooks() {
        range("reading: point", 0, 99001, 11, 100999, (x, point) -> x.reading(0, point));
        for (int each = 0; each <= 1; each++) {
            int way = each;
            range("difference: from", 0, 100000, 11, 98002, (x, from) -> x.difference(from, 0, way));
            range("difference: to", 0, 100000, 11, 101998, (x, to) -> x.difference(0, to, way));
            range("difference: both", 0, 100000, 11, 100000, (x, same) -> x.difference(same, same, way));
        }
        range("follows: point", 0, 100000, 11, 101998, (x, point) -> x.follows(2, point));
        range("whyNot: point", 0, 1, 11, 2, (x, point) -> x.whyNot(2, point, 999));
        range("whyNot: number", -999, 0, 999, 0, (x, number) -> x.whyNot(1, 0, number));
        range("whyNot: number, where one is", -999, 1, 999, 1, (x, number) -> x.whyNot(0, 0, number));
        for (int each = 0; each <= 3; each++) {
            int what = each;
            int[] atHigh = {1, 3, 2, 1998};
            range("point: point", 0, new int[] {2, 3, 0, 0}[what], 11, atHigh[what],
                    (x, point) -> x.point(point, what));
        }
        range("ifRead: point", 0, 0, 11, 0, (x, point) -> x.ifRead(0, point));
    }

    /** "way: 0: ...; 1: ...", and "what: 0: ...". */
    private static void waysAndWhats() {
        range("difference: way", 0, 101998, 1, 101998, (x, way) -> x.difference(0, 11, way));
        range("difference: way, the same", 0, 100000, 1, 100000, (x, way) -> x.difference(5, 5, way));
        range("difference: way, apart", 0, -4, 1, -4, (x, way) -> x.difference(0, 5, way));
        range("holding: way", 0, 4, 1, 4, (x, way) -> x.holding(way));
        range("point: what", 0, 1, 3, 1998, (x, what) -> x.point(11, what));
        range("tapeOf: what", 0, 2, 4, 2, (x, what) -> x.tapeOf(0, what));
        range("tapeOf: what, without readings", 0, 0, 4, 1, (x, what) -> x.tapeOf(1, what));
        range("count: what", 0, 3, 13, 4, (x, what) -> x.count(what));
    }

    /** Each call that is given a tape. */
    private static final Call[] WITH_TAPE = {
        (x, tape) -> x.drop(tape), (x, tape) -> x.shift(tape, 0), (x, tape) -> x.cut(tape, 0),
        (x, tape) -> x.glue(tape, 0), (x, tape) -> x.glue(0, tape), (x, tape) -> x.read(tape, 0, 0),
        (x, tape) -> x.lose(tape, 0), (x, tape) -> x.sign(tape, 0), (x, tape) -> x.reading(tape, 0),
        (x, tape) -> x.follows(tape, 0), (x, tape) -> x.zeros(tape, 0), (x, tape) -> x.zeros(0, tape),
        (x, tape) -> x.whyNot(tape, 0, 0), (x, tape) -> x.tapeOf(tape, 0), (x, tape) -> x.tapeOf(tape, 1),
        (x, tape) -> x.tapeOf(tape, 2), (x, tape) -> x.tapeOf(tape, 3), (x, tape) -> x.tapeOf(tape, 4),
        (x, tape) -> x.ifRead(tape, 0)
    };

    private static void lastTape(String name, int tapes) {
        for (int call = 0; call < WITH_TAPE.length; call++) {
            if (tapes > 0) {
                int answer = WITH_TAPE[call].with(Ready.after(table), tapes - 1);
                CHECK.dueTrue(name + ", call " + call + " with the last tape", answer != -1);
            }
            outside(name + ", call " + call, 0, tapes - 1, WITH_TAPE[call]);
        }
        table = RangeTest::threeTapes;
    }

    /** "If there is no tape or point of a certain number, this is INVALID_ARGUMENT": no tape at all. */
    private static void noTapes() {
        table = x -> Ready.put(x, "0a=1");
        lastTape("no tapes", 0);
    }

    private static void eightTapes() {
        table = Ready::bringAll;
        lastTape("eight tapes", 8);
    }

    /** "When one goes, those with greater numbers get numbers that are 1 less": none is number 7. */
    private static void oneOfEightGone() {
        table = x -> {
            Ready.bringAll(x);
            x.drop(0);
        };
        lastTape("one of eight gone", 7);
    }

    private static void oneOfEightGlued() {
        table = x -> {
            Ready.bringAll(x);
            x.glue(7, 1);
        };
        lastTape("one of eight glued", 7);
    }
}
