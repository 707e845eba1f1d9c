import java.util.function.Consumer;

/** Tables made ready for several tests, and texts put in and read from them. */
final class Ready {
    /** A text of 59 signs: a reading of the tape 0 at each point. */
    static final String TWELVE = "0a=1,0b=1,0c=1,0d=1,0e=1,0f=1,0g=1,0h=1,0i=1,0j=1,0k=1,0l=1";

    private Ready() {
    }

    static LostZeros after(Consumer<LostZeros> run) {
        LostZeros x = new LostZeros();
        run.accept(x);
        return x;
    }

    static void bring(LostZeros x, int tapes) {
        for (int tape = 0; tape < tapes; tape++) {
            x.tape();
        }
    }

    static LostZeros withTapes(int tapes) {
        return after(x -> bring(x, tapes));
    }

    /** Five tapes; the last one is without readings, the others have ten each, so that no more fits. */
    static void bringForty(LostZeros x) {
        bring(x, 5);
        for (int tape = 0; tape < 4; tape++) {
            for (int point = 0; point < 10; point++) {
                x.read(tape, point, point * 3 + tape);
            }
        }
    }

    static LostZeros withForty() {
        return after(Ready::bringForty);
    }

    /** Eight tapes with five readings each: no tape and no reading more fits, and all hangs together. */
    static void bringAll(LostZeros x) {
        bring(x, 8);
        for (int number = 0; number < 40; number++) {
            int tape = number / 5;
            int point = number % 12;
            x.read(tape, point, 10 * point - tape);
        }
    }

    static LostZeros withAll() {
        return after(Ready::bringAll);
    }

    static void put(LostZeros x, String text) {
        for (int place = 0; place < text.length(); place++) {
            x.append(text.charAt(place));
        }
    }

    static LostZeros withPad(int tapes, String text) {
        LostZeros x = withTapes(tapes);
        put(x, text);
        return x;
    }

    static int faultOf(String text) {
        return withPad(0, text).fault();
    }

    static String written(LostZeros x, int tape) {
        StringBuilder text = new StringBuilder();
        int sign = x.sign(tape, 0);
        while (sign > 0) {
            text.append((char) sign);
            sign = x.sign(tape, text.length());
        }
        return text.toString();
    }

    /** All tapes written, with ";" behind each. */
    static String writtenAll(LostZeros x) {
        StringBuilder text = new StringBuilder();
        for (int tape = 0; tape < x.count(0); tape++) {
            text.append(written(x, tape)).append(';');
        }
        return text.toString();
    }
}
