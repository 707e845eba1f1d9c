import java.util.Random;

/**
 * Many runs of calls, each answer held against the model's. The seeds are fixed; an argument
 * asks for another number of runs.
 */
public final class RandomRunsTest {
    private static final String[] CALLS = {
        "tape", "drop", "shift", "cut", "glue", "read", "lose", "append", "clear", "fault",
        "take", "why", "sign", "reading", "difference", "follows", "zeros", "whyNot", "holding",
        "point", "tapeOf", "count", "known", "ifRead", "bestReading", "undo", "save", "restore"
    };
    private static final int APPEND = 7;
    private static final int RUNS = 400;

    /** How often each call comes, of all kinds; a row a kind of run. */
    private static final int[][] OFTEN = {
        {4, 1, 4, 4, 4, 20, 4, 2, 1, 2, 4, 2, 4, 3, 4, 4, 4, 4, 4, 4, 4, 6, 2, 4, 2, 4, 1, 2},
        {6, 0, 1, 1, 1, 60, 1, 1, 0, 1, 2, 2, 2, 2, 2, 2, 2, 2, 6, 3, 2, 6, 1, 3, 2, 1, 1, 1},
        {3, 1, 2, 2, 2, 6, 3, 2, 2, 12, 20, 14, 14, 2, 1, 1, 1, 1, 1, 1, 1, 4, 1, 1, 1, 4, 1, 2},
        {4, 3, 3, 3, 3, 10, 3, 1, 1, 1, 4, 3, 1, 5, 1, 1, 1, 1, 1, 1, 2, 16, 1, 1, 1, 16, 4, 8},
        {2, 0, 8, 12, 12, 20, 4, 0, 0, 0, 1, 1, 1, 3, 3, 3, 4, 3, 2, 3, 6, 6, 1, 2, 1, 1, 1, 1},
    };

    private final Random random;
    private final int kind;
    private LostZeros program;
    private Model model;
    private String waiting = "";

    private RandomRunsTest(long seed) {
        random = new Random(seed);
        kind = (int) (seed % OFTEN.length);
        program = new LostZeros();
        model = new Model();
    }

    public static void main(String[] args) {
        Check check = new Check("RandomRunsTest");
        int runs = args.length > 0 ? Integer.parseInt(args[0]) : RUNS;
        for (long seed = 0; seed < runs && check.wrong() < 20; seed++) {
            new RandomRunsTest(seed).run(check, seed);
        }
        check.end();
    }

    private void run(Check check, long seed) {
        for (int number = 0; number < 512; number++) {
            int call = waiting.isEmpty() ? nextCall() : APPEND;
            int[] with = arguments(call);
            long got = ofProgram(call, with[0], with[1], with[2]);
            long want = ofModel(call, with[0], with[1], with[2]);
            if (got != want) {
                check.due("run " + seed + ", call " + number + ", " + CALLS[call] + "(" + with[0] + ", "
                        + with[1] + ", " + with[2] + ")", got, want);
                return;
            }
        }
    }

    private int nextCall() {
        int all = 0;
        for (int often : OFTEN[kind]) {
            all += often;
        }
        int left = random.nextInt(all);
        int call = 0;
        while (left >= OFTEN[kind][call]) {
            left -= OFTEN[kind][call];
            call++;
        }
        if (call == 10 && random.nextInt(6) != 0) {
            waiting = text();
            return waiting.isEmpty() ? call : 8;
        }
        return call;
    }

    private int tapeNumber() {
        int tapes = model.count(0);
        int odd = random.nextInt(40);
        if (odd == 0) {
            return random.nextBoolean() ? -1 : tapes;
        }
        return odd == 1 ? random.nextInt() : random.nextInt(tapes + (odd < 4 ? 1 : 0) + (tapes == 0 ? 1 : 0));
    }

    private int pointNumber() {
        int odd = random.nextInt(60);
        if (odd == 0) {
            return random.nextBoolean() ? -1 : 12;
        }
        return odd == 1 ? random.nextInt() : random.nextInt(kind == 0 ? 6 : 12);
    }

    private int anyNumber() {
        switch (random.nextInt(12)) {
            case 0:
                return 999 - random.nextInt(3) + 1;
            case 1:
                return -999 + random.nextInt(3) - 1;
            case 2:
                return random.nextInt();
            case 3:
            case 4:
                return random.nextInt(1999) - 999;
            default:
                return random.nextInt(21) - 10;
        }
    }

    /** A number that a tape may read at a point: mostly the one that follows, if one does. */
    private int fitting(int tape, int point) {
        int follows = model.follows(tape, point);
        if (follows > 0 && random.nextInt(kind == 1 ? 20 : 4) != 0) {
            return follows - 100000;
        }
        return anyNumber();
    }

    private int whatOf(int kinds) {
        int odd = random.nextInt(30);
        return odd == 0 ? -1 : odd == 1 ? kinds : odd == 2 ? random.nextInt() : random.nextInt(kinds);
    }

    /** A text of readings, seldom with a fault, to be appended sign by sign. */
    private String text() {
        StringBuilder text = new StringBuilder();
        int parts = 1 + random.nextInt(9);
        for (int part = 0; part < parts; part++) {
            int tape = random.nextInt(Math.min(8, model.count(0) + (random.nextInt(6) == 0 ? 1 : 0)) + 1);
            tape = Math.min(7, random.nextInt(4) != 0 && tape > 0 ? tape - 1 : tape);
            int point = random.nextInt(12);
            int number = Math.max(-999, Math.min(999, fitting(tape, point)));
            text.append(part > 0 ? "," : "").append(tape).append((char) ('a' + point)).append('=').append(number);
        }
        if (random.nextInt(4) == 0) {
            int place = random.nextInt(text.length());
            String signs = "0123456789abclm=-,,--0089!~";
            char sign = signs.charAt(random.nextInt(signs.length()));
            if (random.nextBoolean()) {
                text.setCharAt(place, sign);
            } else if (random.nextBoolean()) {
                text.insert(place, sign);
            } else {
                text.deleteCharAt(place);
            }
        }
        return text.toString();
    }

    private int[] arguments(int call) {
        if (call == APPEND && !waiting.isEmpty()) {
            int code = waiting.charAt(0);
            waiting = waiting.substring(1);
            return new int[] {code, 0, 0};
        }
        int tape = tapeNumber();
        int point = pointNumber();
        switch (CALLS[call]) {
            case "shift":
            case "cut":
                return new int[] {tape, random.nextInt(3) == 0 ? anyNumber() : random.nextInt(401) - 200, 0};
            case "glue":
            case "zeros":
                return new int[] {tape, tapeNumber(), 0};
            case "read":
            case "whyNot":
                return new int[] {tape, point, fitting(tape, point)};
            case "append":
                return new int[] {random.nextInt(3) == 0 ? random.nextInt(140) : "0a=-1,".charAt(random.nextInt(6)), 0, 0};
            case "why":
                return new int[] {whatOf(3), 0, 0};
            case "sign":
                return new int[] {tape, random.nextInt(20) == 0 ? random.nextInt() : random.nextInt(45) - 1, 0};
            case "difference":
                return new int[] {point, pointNumber(), whatOf(2)};
            case "holding":
                return new int[] {whatOf(2), 0, 0};
            case "point":
                return new int[] {point, whatOf(4), 0};
            case "tapeOf":
                return new int[] {tape, whatOf(5), 0};
            case "count":
                return new int[] {whatOf(14), 0, 0};
            default:
                return new int[] {tape, point, 0};
        }
    }

    private long ofProgram(int call, int a, int b, int c) {
        switch (CALLS[call]) {
            case "tape": return program.tape();
            case "drop": return program.drop(a);
            case "shift": return program.shift(a, b);
            case "cut": return program.cut(a, b);
            case "glue": return program.glue(a, b);
            case "read": return program.read(a, b, c);
            case "lose": return program.lose(a, b);
            case "append": return program.append(a);
            case "clear": return program.clear();
            case "fault": return program.fault();
            case "take": return program.take();
            case "why": return program.why(a);
            case "sign": return program.sign(a, b);
            case "reading": return program.reading(a, b);
            case "difference": return program.difference(a, b, c);
            case "follows": return program.follows(a, b);
            case "zeros": return program.zeros(a, b);
            case "whyNot": return program.whyNot(a, b, c);
            case "holding": return program.holding(a);
            case "point": return program.point(a, b);
            case "tapeOf": return program.tapeOf(a, b);
            case "count": return program.count(a);
            case "known": return Double.doubleToLongBits(program.known());
            case "ifRead": return program.ifRead(a, b);
            case "bestReading": return program.bestReading();
            case "undo": return program.undo();
            case "save": return program.save();
            default: return program.restore();
        }
    }

    private long ofModel(int call, int a, int b, int c) {
        switch (CALLS[call]) {
            case "tape": return model.tape();
            case "drop": return model.drop(a);
            case "shift": return model.shift(a, b);
            case "cut": return model.cut(a, b);
            case "glue": return model.glue(a, b);
            case "read": return model.read(a, b, c);
            case "lose": return model.lose(a, b);
            case "append": return model.append(a);
            case "clear": return model.clear();
            case "fault": return model.fault();
            case "take": return model.take();
            case "why": return model.why(a);
            case "sign": return model.sign(a, b);
            case "reading": return model.reading(a, b);
            case "difference": return model.difference(a, b, c);
            case "follows": return model.follows(a, b);
            case "zeros": return model.zeros(a, b);
            case "whyNot": return model.whyNot(a, b, c);
            case "holding": return model.holding(a);
            case "point": return model.point(a, b);
            case "tapeOf": return model.tapeOf(a, b);
            case "count": return model.count(a);
            case "known": return Double.doubleToLongBits(model.known());
            case "ifRead": return model.ifRead(a, b);
            case "bestReading": return model.bestReading();
            case "undo": return model.undo();
            case "save": return model.save();
            default: return model.restore();
        }
    }
}
