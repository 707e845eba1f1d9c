import java.util.function.Consumer;

/**
 * The edges of texts (promises 9 to 14): each method stands for the sentence of the document above
 * it.
 */
public final class TextEdgesTest {
    private static final Check CHECK = new Check("TextEdgesTest");

    public static void main(String[] args) {
        padIsEmptyAtFirst();
        padTakesSixty();
        padTakesEachCode();
        clearTellsTheLength();
        appendAndClearAreNoChanges();
        faultAtTheFirstSign();
        faultOfTapes();
        faultOfPoints();
        faultOfEquals();
        faultOfNumbersFromZero();
        faultOfNumbersBelowZero();
        faultOfNumbersTooLong();
        faultOfParts();
        faultInTheMiddle();
        faultAtTheLastSign();
        faultBehindTheLastSign();
        faultIsTheFirstOne();
        faultOfEachSignEverywhere();
        noFault();
        fullPad();
        takeOfAFaultyPad();
        takeOfAnEmptyPad();
        takeStopsNot();
        takeStopsAtAReason();
        takeStopsAtAnError();
        takeStopsAtTheLimit();
        takeErrorsAheadOfReasons();
        takeStopsAtTheFirstAndTheLast();
        takeReadsAsReadDoes();
        takeOfAFullPad();
        takeIsOneChange();
        whyWithoutTake();
        whyOfTheLatest();
        whyOfTakeWithAnError();
        whyIsNotUndone();
        signOfNoReadings();
        signByRisingPoints();
        signOfNumbers();
        signBehindTheText();
        signOfTheLongestText();
        signAfterOneHasGone();
        signIsTakenAgain();
        CHECK.end();
    }

    private static void due(String what, long got, long want) {
        CHECK.due(what, got, want);
    }

    private static void dueFault(String text, int want) {
        CHECK.due("fault of \"" + text + "\"", Ready.faultOf(text), want);
    }

    private static void dueWhy(String what, LostZeros x, int reason, int number, int position) {
        due(what + ": why(0)", x.why(0), reason);
        due(what + ": why(1)", x.why(1), number);
        due(what + ": why(2)", x.why(2), position);
    }

    /** "There is a pad of at most 60 characters, initially empty." */
    private static void padIsEmptyAtFirst() {
        LostZeros x = new LostZeros();
        due("pad: length", x.count(12), 0);
        due("pad: cleared", x.clear(), 0);
        due("pad: fault", x.fault(), 0);
    }

    /** "LIMIT_REACHED if it has 60 characters" */
    private static void padTakesSixty() {
        LostZeros x = Ready.withPad(0, Ready.TWELVE);
        due("pad: 59", x.count(12), 59);
        due("pad: the sixtieth", x.append('2'), 60);
        due("pad: one more", x.append('3'), -3);
        due("pad: 60", x.count(12), 60);
        due("pad: it is whole", x.fault(), -4);
        Ready.bring(x, 1);
        due("pad: taken", x.take(), 12);
        due("pad: the sixtieth was taken, no more", x.reading(0, 11), 100012);
        due("pad: room again", x.append('0'), 1);
    }

    /** "the character code, 33 to 126": each of them is a character. */
    private static void padTakesEachCode() {
        LostZeros x = new LostZeros();
        for (int code = 33; code <= 126; code++) {
            if (code == 93) {
                due("pad: cleared between", x.clear(), 60);
            }
            due("pad: the code " + code, x.append(code), code < 93 ? code - 32 : code - 92);
        }
        due("pad: 32", x.append(32), -1);
        due("pad: 127", x.append(127), -1);
        due("pad: length", x.count(12), 34);
    }

    /** "Returns the length that it had": 0, 1 and 60. */
    private static void clearTellsTheLength() {
        LostZeros x = Ready.withPad(0, "0");
        due("clear: one", x.clear(), 1);
        due("clear: none", x.clear(), 0);
        Ready.put(x, Ready.TWELVE + "0");
        due("clear: sixty", x.clear(), 60);
        due("clear: none again", x.clear(), 0);
        due("clear: the pad begins anew", x.append('8'), 1);
        due("clear: with its own fault", x.fault(), 0);
    }

    /** The changes are named; append and clear are none of them. */
    private static void appendAndClearAreNoChanges() {
        LostZeros x = Ready.withTapes(1);
        Ready.put(x, "0a=1");
        x.clear();
        due("pad: states", x.count(13), 1);
        due("pad: the tape is undone", x.undo(), 0);
        due("pad: no tape", x.count(0), 0);
    }

    /** "the position, from 0, of the first character that is wrong": the first one. */
    private static void faultAtTheFirstSign() {
        dueFault("a", 0);
        dueFault(",", 0);
        dueFault("-", 0);
        dueFault("=", 0);
        dueFault("!", 0);
        dueFault("~", 0);
        dueFault(",0a=1", 0);
        dueFault("a0=1", 0);
    }

    /** "a tape (a digit 0 to 7)" */
    private static void faultOfTapes() {
        dueFault("/", 0);
        dueFault("0", 1);
        dueFault("7", 1);
        dueFault("8", 0);
        dueFault("9", 0);
        dueFault("00", 1);
        dueFault("0a=1,/", 5);
        dueFault("0a=1,7", 6);
        dueFault("0a=1,8", 5);
        dueFault("7a=1", -4);
    }

    /** "a point (a letter a to l for the points 0 to 11)" */
    private static void faultOfPoints() {
        dueFault("0`", 1);
        dueFault("0a", 2);
        dueFault("0l", 2);
        dueFault("0m", 1);
        dueFault("0A", 1);
        dueFault("0L", 1);
        dueFault("0aa", 2);
        dueFault("0=", 1);
        dueFault("0a=1,0`=1", 6);
        dueFault("0a=1,0m=1", 6);
        dueFault("0l=1", -4);
    }

    /** ""="" */
    private static void faultOfEquals() {
        dueFault("0a<", 2);
        dueFault("0a>", 2);
        dueFault("0a1", 2);
        dueFault("0a-", 2);
        dueFault("0a,", 2);
        dueFault("0a==", 3);
        dueFault("0a=", 3);
    }

    /** "a number 0 to 999"; "Numbers have no needless 0 ahead." */
    private static void faultOfNumbersFromZero() {
        dueFault("0a=0", -4);
        dueFault("0a=00", 4);
        dueFault("0a=01", 4);
        dueFault("0a=0,", 5);
        dueFault("0a=1", -4);
        dueFault("0a=9", -4);
        dueFault("0a=/", 3);
        dueFault("0a=:", 3);
        dueFault("0a=10", -4);
        dueFault("0a=100", -4);
        dueFault("0a=999", -4);
        dueFault("0a=+1", 3);
    }

    /** "perhaps with "-" ahead of it (but not ahead of 0)" */
    private static void faultOfNumbersBelowZero() {
        dueFault("0a=-", 4);
        dueFault("0a=-0", 4);
        dueFault("0a=-01", 4);
        dueFault("0a=-1", -4);
        dueFault("0a=-9", -4);
        dueFault("0a=-10", -4);
        dueFault("0a=-999", -4);
        dueFault("0a=--1", 4);
        dueFault("0a=-,", 4);
        dueFault("0a=1-", 4);
        dueFault("0a=0-", 4);
        dueFault("0a=-/", 4);
        dueFault("0a=-:", 4);
    }

    /** "0 to 999": the fourth digit is wrong, whatever it is. */
    private static void faultOfNumbersTooLong() {
        dueFault("0a=1000", 6);
        dueFault("0a=9990", 6);
        dueFault("0a=-1000", 7);
        dueFault("0a=-9999", 7);
        dueFault("0a=999,0b=1000", 13);
    }

    /** "one or more parts with "," between two" */
    private static void faultOfParts() {
        dueFault("0a=1,", 5);
        dueFault("0a=1,,", 5);
        dueFault("0a=1,0b=2", -4);
        dueFault("0a=1;", 4);
        dueFault("0a=10;", 5);
        dueFault("0a=100;", 6);
        dueFault("0a=0;", 4);
        dueFault("0a=1+", 4);
        dueFault("0a=1 0b=1".replace(' ', '.'), 4);
        dueFault("0a=1,0a=2", -4);
    }

    /** "the first character that is wrong": one between the first and the last one. */
    private static void faultInTheMiddle() {
        dueFault("0a=1,9b=2,0c=3", 5);
        dueFault("0a=1,0z=2,0c=3", 6);
        dueFault("0a=1,0b:2,0c=3", 7);
        dueFault("0a=1,0b=x,0c=3", 8);
        dueFault("0a=1,0b=2.0c=3", 9);
    }

    /** "the first character that is wrong": the last one. */
    private static void faultAtTheLastSign() {
        dueFault("0a=1,8", 5);
        dueFault("0a=1,0b=-0", 9);
        dueFault("0a=1,0b=05", 9);
        dueFault("0a=1,0b=2,,", 10);
        dueFault("0a=1,0b=2!", 9);
    }

    /** "if there is none, and the pad is not complete (also if it is empty), the length of the pad" */
    private static void faultBehindTheLastSign() {
        dueFault("", 0);
        dueFault("0", 1);
        dueFault("0a", 2);
        dueFault("0a=", 3);
        dueFault("0a=-", 4);
        dueFault("0a=-1,", 6);
        dueFault("0a=-1,7l=", 9);
        dueFault("0a=-1,7l=-", 10);
    }

    /** Several are wrong: it is told of the first one, and never of one behind it. */
    private static void faultIsTheFirstOne() {
        dueFault("8m:x", 0);
        dueFault("0m:x", 1);
        dueFault("0a:x", 2);
        dueFault("0a=x", 3);
        dueFault("0a=0x,8", 4);
        dueFault("xxxx", 0);
    }

    /** Each sign at each place of a text of two parts: it is wrong there, unless the text says so. */
    private static void faultOfEachSignEverywhere() {
        String text = "0a=-12,7l=0";
        String[] right = {
            "01234567", "abcdefghijkl", "=", "-0123456789", "123456789", "0123456789,", ",0123456789",
            "01234567", "abcdefghijkl", "=", "-0123456789", "," };
        for (int place = 0; place <= text.length(); place++) {
            for (char sign = 33; sign <= 126; sign++) {
                String with = text.substring(0, place) + sign;
                boolean wrong = right[place].indexOf(sign) < 0;
                due("fault of \"" + with + "\" at its end", Ready.faultOf(with) == place ? 1 : 0, wrong ? 1 : 0);
            }
        }
    }

    /** "NOT_FOUND if it has none", also if no such tape is there, or the readings contradict. */
    private static void noFault() {
        dueFault("0a=0", -4);
        dueFault("7l=-999,7l=999,0a=5", -4);
        LostZeros x = Ready.withPad(1, "5a=1");
        due("fault: no such tape", x.fault(), -4);
        due("fault: told again", x.fault(), -4);
        due("fault: the pad stays", x.count(12), 4);
    }

    /** "no such text, of any length, begins with ...": a full pad may be the beginning of a longer one. */
    private static void fullPad() {
        dueFault(Ready.TWELVE, -4);
        dueFault(Ready.TWELVE + "0", -4);
        dueFault(Ready.TWELVE + ",", 60);
        dueFault(Ready.TWELVE + "=", 59);
        dueFault("x" + Ready.TWELVE, 0);
        dueFault(Ready.TWELVE.substring(0, 57) + "=-1", -4);
        dueFault(Ready.TWELVE.substring(0, 57) + "=-0", 59);
        dueFault(Ready.TWELVE.substring(0, 57) + "0=1", 57);
    }

    /** "NOT_POSSIBLE if the pad has a fault": at its first, a middle, its last sign, and behind it. */
    private static void takeOfAFaultyPad() {
        String[] faulty = {"x0a=1", "0a=1,x,0b=1", "0a=1,0b=2!", "0a=1,", "", "0a=-0"};
        for (String text : faulty) {
            Consumer<LostZeros> table = x -> {
                Ready.bring(x, 1);
                Ready.put(x, text);
            };
            due("take of \"" + text + "\"", Ready.after(table).take(), -2);
            CHECK.dueText("take of \"" + text + "\", what it changed", Views.of(table.andThen(LostZeros::take)),
                    Views.of(table));
        }
    }

    /** An empty pad has the fault 0; so has the one that was just taken. */
    private static void takeOfAnEmptyPad() {
        LostZeros x = Ready.withPad(1, "0a=1");
        due("take: first", x.take(), 1);
        due("take: again", x.take(), -2);
        due("take: states", x.count(13), 2);
        due("take: tapes are no matter", new LostZeros().take(), -2);
    }

    /** "Returns how many are taken": all; "and empties the pad". */
    private static void takeStopsNot() {
        LostZeros x = Ready.withPad(8, "0a=0,7l=-999,0b=999");
        due("take: all", x.take(), 3);
        dueWhy("take: all", x, -4, -4, -4);
        due("take: the pad", x.count(12), 0);
        due("take: taken", x.count(8), 3);
        due("take: refused", x.count(9), 0);
        CHECK.dueText("take: all", Ready.writtenAll(x), "0a=0,0b=999;;;;;;;7l=-999;");
    }

    /** "up to the first one that is refused (which is counted)": for 1, and for 2. */
    private static void takeStopsAtAReason() {
        LostZeros x = Ready.withPad(2, "0a=5,1a=-5,0a=5,0b=1");
        due("take: up to the reason 1", x.take(), 2);
        dueWhy("take: reason 1", x, 1, 2, 11);
        due("take: one refused", x.count(9), 1);
        due("take: the pad is empty", x.count(12), 0);
        due("take: nothing behind it", x.reading(0, 1), -4);
        Ready.put(x, "0c=20,1c=11,1d=1");
        due("take: up to the reason 2", x.take(), 1);
        dueWhy("take: reason 2", x, 2, 1, 6);
        due("take: two refused", x.count(9), 2);
        due("take: the pad is empty again", x.count(12), 0);
        due("take: nothing behind it either", x.reading(1, 3), -4);
        due("take: taken", x.count(8), 3);
    }

    /** "or returns an error": there is no such tape. It is not refused, and so it is not counted. */
    private static void takeStopsAtAnError() {
        LostZeros x = Ready.withPad(2, "1a=-999,2a=5,0a=0");
        due("take: up to the error", x.take(), 1);
        dueWhy("take: no such tape", x, -1, 1, 8);
        due("take: none refused", x.count(9), 0);
        due("take: the pad is empty", x.count(12), 0);
        due("take: nothing behind it", x.reading(0, 0), -4);
        due("take: a change", x.count(13), 3);
        due("take: undone", x.undo(), 2);
        due("take: no reading", x.count(1), 0);
        x = Ready.withPad(0, "0a=0");
        due("take: without tapes", x.take(), 0);
        dueWhy("take: without tapes", x, -1, 0, 0);
        due("take: a change all the same", x.count(13), 1);
    }

    /** "or returns an error": there are 40 readings, at the first one, or come to be. */
    private static void takeStopsAtTheLimit() {
        LostZeros x = Ready.withForty();
        Ready.put(x, "4l=1,4k=1");
        due("take: none fits", x.take(), 0);
        dueWhy("take: none fits", x, -3, 0, 0);
        x.lose(0, 0);
        x.lose(1, 1);
        Ready.put(x, "4l=1,4k=-10,4j=5");
        due("take: two fit", x.take(), 2);
        dueWhy("take: two fit", x, -3, 2, 12);
        due("take: 40 readings", x.count(1), 40);
        due("take: none refused", x.count(9), 0);
        x.lose(4, 10);
        Ready.put(x, "4k=-10");
        due("take: the last one fits", x.take(), 1);
        dueWhy("take: the last one fits", x, -4, -4, -4);
    }

    /** "errors are looked at ahead of reasons", and INVALID_ARGUMENT ahead of LIMIT_REACHED. */
    private static void takeErrorsAheadOfReasons() {
        LostZeros x = Ready.withForty();
        Ready.put(x, "0a=0");
        due("take: 40, reason 1", x.take(), 0);
        dueWhy("take: 40, reason 1", x, -3, 0, 0);
        x.drop(4);
        x.tape();
        x.lose(0, 0);
        x.read(4, 9, 0);
        Ready.put(x, "4a=999");
        due("take: 40, reason 2", x.take(), 0);
        dueWhy("take: 40, reason 2", x, -3, 0, 0);
        Ready.put(x, "5a=0");
        due("take: 40, no such tape", x.take(), 0);
        dueWhy("take: 40, no such tape", x, -1, 0, 0);
        due("take: none refused", x.count(9), 0);
    }

    /** "its number among the readings of the pad, from 0": 0, and 11; "the position of its first sign". */
    private static void takeStopsAtTheFirstAndTheLast() {
        LostZeros x = Ready.withTapes(1);
        x.read(0, 0, 7);
        Ready.put(x, "0a=7,0b=1");
        due("take: none", x.take(), 0);
        dueWhy("take: at the first one", x, 1, 0, 0);
        x = Ready.withTapes(1);
        x.read(0, 11, 1);
        Ready.put(x, Ready.TWELVE);
        due("take: all but the last one", x.take(), 11);
        dueWhy("take: at the last one", x, 1, 11, 55);
        x = Ready.withPad(1, "0a=0,0b=-10,0c=100,0d=-999,0a=1");
        due("take: numbers of all lengths", x.take(), 4);
        dueWhy("take: behind numbers of all lengths", x, 1, 4, 27);
    }

    /** "as read() does": a reading that was taken joins for those behind it. */
    private static void takeReadsAsReadDoes() {
        LostZeros x = Ready.withPad(2, "0a=1,0b=11,1a=5,1b=15,1b=15");
        due("take: what follows is taken", x.take(), 4);
        dueWhy("take: the same again", x, 1, 4, 22);
        due("take: readings", x.count(1), 4);
        due("take: taken", x.count(8), 4);
    }

    /** A pad of 60 characters. */
    private static void takeOfAFullPad() {
        LostZeros x = Ready.withPad(1, Ready.TWELVE + "0");
        due("take: twelve", x.take(), 12);
        due("take: the last sign counts", x.reading(0, 11), 100010);
        due("take: the pad is empty", x.clear(), 0);
    }

    /** "This is one change, also if none is taken." */
    private static void takeIsOneChange() {
        LostZeros x = Ready.withPad(1, "0a=1,0b=2,0c=3,0d=4,0e=5");
        due("take: five", x.take(), 5);
        due("take: one state more", x.count(13), 2);
        Ready.put(x, "0a=1");
        due("take: none", x.take(), 0);
        due("take: again one more", x.count(13), 3);
        due("take: none is undone", x.undo(), 2);
        due("take: not refused then", x.count(9), 0);
        due("take: five are undone", x.undo(), 1);
        due("take: no reading then", x.count(1), 0);
        due("take: the pad stays empty", x.count(12), 0);
    }

    /** "NOT_FOUND if there was no such call": none at all, or those with an error alone. */
    private static void whyWithoutTake() {
        LostZeros x = Ready.withTapes(1);
        dueWhy("why: no take", x, -4, -4, -4);
        x.read(0, 0, 1);
        due("why: a refused read", x.read(0, 0, 1), 1);
        dueWhy("why: read is no take", x, -4, -4, -4);
        due("why: take with an error", x.take(), -2);
        dueWhy("why: take with an error alone", x, -4, -4, -4);
    }

    /** "at which the latest call ... stopped"; "or all its readings were taken" */
    private static void whyOfTheLatest() {
        LostZeros x = Ready.withPad(2, "0a=1,0b=1,0a=1");
        x.take();
        dueWhy("why: the first", x, 1, 2, 10);
        Ready.put(x, "1a=1,1b=2");
        x.take();
        dueWhy("why: the second", x, 2, 1, 5);
        Ready.put(x, "2a=1");
        x.take();
        dueWhy("why: the third", x, -1, 0, 0);
        Ready.put(x, "0l=0");
        due("why: the fourth takes all", x.take(), 1);
        dueWhy("why: the fourth", x, -4, -4, -4);
        due("why: a wrong argument still", x.why(3), -1);
        due("why: a refused read then", x.read(0, 0, 1), 1);
        dueWhy("why: still the fourth", x, -4, -4, -4);
    }

    /** "the latest call of take() that returned no error": one with an error leaves it. */
    private static void whyOfTakeWithAnError() {
        LostZeros x = Ready.withPad(1, "0a=1,0a=1");
        x.take();
        due("why: an empty pad", x.take(), -2);
        dueWhy("why: after an empty pad", x, 1, 1, 5);
        Ready.put(x, "0b");
        due("why: a fault", x.take(), -2);
        dueWhy("why: after a fault", x, 1, 1, 5);
        x.clear();
        Ready.put(x, "1a=1,1a=1");
        dueWhy("why: a new pad is not yet taken", x, 1, 1, 5);
    }

    /** "This is not a part of what is undone, or restored." */
    private static void whyIsNotUndone() {
        LostZeros x = Ready.withTapes(1);
        x.save();
        Ready.put(x, "0a=1,0a=1");
        x.take();
        due("why: undone", x.undo(), 1);
        dueWhy("why: after undo", x, 1, 1, 5);
        due("why: restored", x.restore(), 0);
        dueWhy("why: after restore", x, 1, 1, 5);
        x.save();
        Ready.put(x, "0a=1");
        due("why: all taken", x.take(), 1);
        x.undo();
        dueWhy("why: all taken, after undo", x, -4, -4, -4);
        x.restore();
        dueWhy("why: all taken, after restore", x, -4, -4, -4);
    }

    /** "NOT_FOUND if the text is not so long": there is none. */
    private static void signOfNoReadings() {
        LostZeros x = Ready.withTapes(1);
        due("sign: the place 0", x.sign(0, 0), -4);
        due("sign: the place -1", x.sign(0, -1), -1);
        x.read(0, 5, 5);
        due("sign: with a reading", x.sign(0, 0), '0');
        x.lose(0, 5);
        due("sign: without it again", x.sign(0, 0), -4);
    }

    /** "A tape is written so: its readings, by rising points." */
    private static void signByRisingPoints() {
        LostZeros x = Ready.withTapes(2);
        x.read(1, 11, 1);
        x.read(1, 0, 2);
        x.read(1, 5, 3);
        x.read(0, 6, 4);
        CHECK.dueText("sign: by rising points", Ready.written(x, 1), "1a=2,1f=3,1l=1");
        CHECK.dueText("sign: the other tape", Ready.written(x, 0), "0g=4");
    }

    /** "a number 0 to 999, perhaps with "-" ahead of it"; "no needless 0 ahead" */
    private static void signOfNumbers() {
        int[] numbers = {0, 1, -1, 9, 10, -10, 99, 100, -100, 101, 999, -999};
        for (int number : numbers) {
            LostZeros x = Ready.withTapes(8);
            x.read(7, 11, number);
            CHECK.dueText("sign: " + number, Ready.written(x, 7), "7l=" + number);
        }
    }

    /** "NOT_FOUND if the text is not so long": at its length, and far behind. */
    private static void signBehindTheText() {
        LostZeros x = Ready.withTapes(1);
        x.read(0, 0, -12);
        due("sign: the last one", x.sign(0, 5), '2');
        due("sign: at the length", x.sign(0, 6), -4);
        due("sign: far behind", x.sign(0, 1000), -4);
        due("sign: farthest", x.sign(0, Integer.MAX_VALUE), -4);
    }

    /** 12 readings of 7 signs with 11 "," between: longer than the pad. */
    private static void signOfTheLongestText() {
        LostZeros x = Ready.withTapes(1);
        StringBuilder all = new StringBuilder();
        for (int point = 0; point < 12; point++) {
            x.read(0, point, -999);
            all.append(point > 0 ? "," : "").append('0').append((char) ('a' + point)).append("=-999");
        }
        CHECK.dueText("sign: the longest text", Ready.written(x, 0), all.toString());
        due("sign: its last one", x.sign(0, 94), '9');
        due("sign: behind it", x.sign(0, 95), -4);
    }

    /** "those with greater numbers get numbers that are 1 less": they are written with these. */
    private static void signAfterOneHasGone() {
        LostZeros x = Ready.withTapes(8);
        x.read(7, 0, 5);
        x.read(1, 0, 6);
        x.drop(0);
        CHECK.dueText("sign: the last one's new number", Ready.written(x, 6), "6a=5");
        CHECK.dueText("sign: another one's new number", Ready.written(x, 0), "0a=6");
        due("sign: no tape 7", x.sign(7, 0), -1);
    }

    /** What is written can be taken, and is the same then. */
    private static void signIsTakenAgain() {
        LostZeros x = Ready.withTapes(2);
        int[] numbers = {0, -999, 999, 10, -1, 100};
        for (int number = 0; number < numbers.length; number++) {
            x.read(1, 2 * number, numbers[number]);
        }
        String text = Ready.written(x, 1);
        x.drop(1);
        x.tape();
        Ready.put(x, text);
        due("sign: all taken", x.take(), 6);
        CHECK.dueText("sign: taken again", Ready.written(x, 1), text);
    }
}
