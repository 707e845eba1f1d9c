/** At least one test for each promise of the document: ordinary inputs, edges, wrong inputs. */
public final class PromiseTest {
    private static final int MIN = Integer.MIN_VALUE;
    private static final int MAX = Integer.MAX_VALUE;
    private static final Check CHECK = new Check("PromiseTest");

    public static void main(String[] args) {
        constants();
        newObject();
        tape();
        drop();
        dropRenumbers();
        shift();
        cut();
        cutLimits();
        glue();
        glueOneOfThree();
        glueRefused();
        read();
        readLimit();
        lose();
        append();
        clear();
        faultOfOneText();
        faultOfNumbers();
        faultOfSeveralParts();
        take();
        takeStops();
        takeErrors();
        why();
        sign();
        reading();
        difference();
        differenceOfLongChain();
        follows();
        zeros();
        whyNot();
        holding();
        point();
        pointsAtOnePlace();
        tapeOf();
        countOfGroups();
        countOfDeeds();
        known();
        ifRead();
        bestReading();
        undo();
        undoOfEachChange();
        historyLimit();
        save();
        restore();
        errorsChangeNothing();
        looksChangeNothing();
        CHECK.end();
    }

    private static void due(String what, long got, long want) {
        CHECK.due(what, got, want);
    }

    private static void constants() {
        due("INVALID_ARGUMENT", LostZeros.INVALID_ARGUMENT, -1);
        due("NOT_POSSIBLE", LostZeros.NOT_POSSIBLE, -2);
        due("LIMIT_REACHED", LostZeros.LIMIT_REACHED, -3);
        due("NOT_FOUND", LostZeros.NOT_FOUND, -4);
    }

    private static void newObject() {
        LostZeros x = new LostZeros();
        int[] want = {0, 0, 12, 0, 0, 0, 12, 0, 0, 0, 0, 0, 0, 0};
        for (int what = 0; what < want.length; what++) {
            due("new: count(" + what + ")", x.count(what), want[what]);
        }
        CHECK.dueDouble("new: known()", x.known(), 0.0);
        due("new: undo()", x.undo(), -2);
        due("new: restore()", x.restore(), -2);
        due("new: why(0)", x.why(0), -4);
        due("new: fault()", x.fault(), 0);
        due("new: take()", x.take(), -2);
        due("new: bestReading()", x.bestReading(), -4);
        due("new: drop(0)", x.drop(0), -1);
    }

    private static void tape() {
        LostZeros x = new LostZeros();
        for (int tape = 0; tape < 8; tape++) {
            due("tape: number", x.tape(), tape);
            due("tape: readings of it", x.tapeOf(tape, 0), 0);
        }
        due("tape: ninth", x.tape(), -3);
        due("tape: tapes", x.count(0), 8);
        due("tape: an error is no change", x.count(13), 4);
        x.drop(3);
        due("tape: after one went", x.tape(), 7);
    }

    private static void drop() {
        LostZeros x = Ready.withTapes(2);
        x.read(0, 0, 5);
        x.read(0, 1, 6);
        x.read(1, 1, 7);
        due("drop: -1", x.drop(-1), -1);
        due("drop: 2", x.drop(2), -1);
        due("drop: least", x.drop(MIN), -1);
        due("drop: greatest", x.drop(MAX), -1);
        due("drop: lost", x.drop(0), 2);
        due("drop: left", x.count(1), 1);
        due("drop: the next one has its number", x.reading(0, 1), 100007);
        due("drop: taken stays", x.count(8), 3);
        due("drop: nothing refused", x.count(9), 0);
        due("drop: last", x.drop(0), 1);
        due("drop: none left", x.count(0), 0);
        due("drop: none to drop", x.drop(0), -1);
    }

    private static void dropRenumbers() {
        LostZeros x = Ready.withTapes(8);
        for (int tape = 0; tape < 8; tape++) {
            x.read(tape, tape, 100 + tape);
        }
        due("drop: one of eight", x.drop(2), 1);
        CHECK.dueText("drop: ahead of it", Ready.written(x, 1), "1b=101");
        CHECK.dueText("drop: behind it", Ready.written(x, 2), "2d=103");
        CHECK.dueText("drop: the last", Ready.written(x, 6), "6h=107");
        due("drop: a new one", x.tape(), 7);
        due("drop: a new one has no readings", x.tapeOf(7, 0), 0);
        due("drop: the last of eight", x.drop(7), 0);
        x.drop(6);
        due("drop: a new one again", x.tape(), 6);
        due("drop: it has none either", x.tapeOf(6, 0), 0);
    }

    private static void shift() {
        LostZeros x = Ready.withTapes(2);
        due("shift: no readings", x.shift(0, 999), 10);
        x.read(0, 0, 0);
        x.read(0, 4, 10);
        x.read(1, 4, 10);
        due("shift: up", x.shift(0, 989), 12);
        due("shift: to 999", x.reading(0, 4), 100999);
        due("shift: the other reading", x.reading(0, 0), 100989);
        due("shift: another tape stays", x.reading(1, 4), 100010);
        due("shift: too far up", x.shift(0, 1), 4);
        due("shift: refused is counted", x.count(9), 1);
        due("shift: nothing moved", x.reading(0, 0), 100989);
        due("shift: down", x.shift(0, -999), 12);
        due("shift: down more", x.shift(0, -989), 12);
        due("shift: to -999", x.reading(0, 0), 99001);
        due("shift: too far down", x.shift(0, -1), 4);
        due("shift: by 0", x.shift(0, 0), 12);
        due("shift: difference stays", x.difference(0, 4, 0), 100010);
        due("shift: zero moved", x.zeros(1, 0), 100999);
        due("shift: 1000", x.shift(0, 1000), -1);
        due("shift: -1000", x.shift(0, -1000), -1);
        due("shift: greatest", x.shift(0, MAX), -1);
        due("shift: no tape", x.shift(2, 1), -1);
        due("shift: tape -1", x.shift(-1, 1), -1);
    }

    private static void cut() {
        LostZeros x = Ready.withTapes(1);
        x.read(0, 0, 5);
        x.read(0, 1, 9);
        x.read(0, 2, 10);
        x.read(0, 3, 40);
        due("cut: two go", x.cut(0, 10), 12);
        CHECK.dueText("cut: what stays", Ready.written(x, 0), "0a=5,0b=9");
        CHECK.dueText("cut: what goes", Ready.written(x, 1), "1c=0,1d=30");
        due("cut: zeros are apart", x.zeros(0, 1), -4);
        due("cut: points are apart", x.difference(0, 3, 1), -4);
        due("cut: cuts", x.count(10), 1);
        due("cut: no reading is new", x.count(8), 4);
        due("cut: none go", x.cut(0, 10), 10);
        due("cut: a new one without readings", x.tapeOf(2, 0), 0);
        due("cut: all go", x.cut(0, -900), 12);
        due("cut: nothing stays", x.tapeOf(0, 0), 0);
        due("cut: a mark below 0", x.reading(3, 0), 100905);
        due("cut: tape -1", x.cut(-1, 0), -1);
        due("cut: no tape", x.cut(4, 0), -1);
        due("cut: mark 1000", x.cut(0, 1000), -1);
        due("cut: mark -1000", x.cut(0, -1000), -1);
        due("cut: least mark", x.cut(0, MIN), -1);
    }

    private static void cutLimits() {
        LostZeros x = Ready.withTapes(1);
        x.read(0, 0, 999);
        x.read(0, 1, -500);
        due("cut: 1000 on the new one", x.cut(0, -1), 4);
        due("cut: refused", x.count(9), 1);
        due("cut: no cut", x.count(10), 0);
        due("cut: no new tape", x.count(0), 1);
        due("cut: nothing moved", x.reading(0, 0), 100999);
        due("cut: 999 on the new one", x.cut(0, 0), 11);
        due("cut: it reads 999", x.reading(1, 0), 100999);
        due("cut: a lower one is no matter", x.reading(0, 1), 99500);
        while (x.count(0) < 8) {
            x.tape();
        }
        due("cut: eight tapes, ahead of the reason", x.cut(1, -1), -3);
        due("cut: eight tapes, wrong mark", x.cut(1, 1000), -1);
        due("cut: eight tapes, wrong tape", x.cut(8, 0), -1);
        due("cut: nothing counted", x.count(9), 1);
    }

    private static void glue() {
        LostZeros x = Ready.withTapes(4);
        x.read(0, 0, 0);
        x.read(0, 1, 10);
        x.read(1, 1, 5);
        x.read(1, 2, 25);
        x.read(3, 7, 70);
        due("glue: one is got", x.glue(0, 1), 11);
        CHECK.dueText("glue: the longer one", Ready.written(x, 0), "0a=0,0b=10,0c=30");
        due("glue: tapes", x.count(0), 3);
        CHECK.dueText("glue: the later ones move up", Ready.written(x, 2), "2h=70");
        due("glue: readings", x.count(1), 4);
        due("glue: glued", x.count(11), 1);
        due("glue: no reading is taken", x.count(8), 5);
        x.read(1, 0, 100);
        due("glue: ahead of the one that stays", x.glue(1, 0), 12);
        CHECK.dueText("glue: it stays at number 0", Ready.written(x, 0), "0a=100,0b=110,0c=130");
        x.tape();
        x.read(2, 0, 7);
        due("glue: nothing new", x.glue(0, 2), 10);
        x.tape();
        x.read(2, 2, 50);
        x.read(2, 8, 8);
        due("glue: the first one goes", x.glue(2, 0), 12);
        CHECK.dueText("glue: it gets lower numbers", Ready.written(x, 1), "1a=20,1b=30,1c=50,1i=8");
        due("glue: the same", x.glue(0, 0), -1);
        due("glue: -1", x.glue(-1, 0), -1);
        due("glue: other -1", x.glue(0, -1), -1);
        due("glue: none", x.glue(2, 0), -1);
        due("glue: other none", x.glue(0, 2), -1);
    }

    private static void glueOneOfThree() {
        LostZeros x = Ready.withTapes(3);
        x.read(0, 0, 10);
        x.read(0, 1, 1);
        x.read(1, 0, 200);
        x.read(2, 0, 300);
        due("glue: one of three", x.glue(1, 0), 11);
        CHECK.dueText("glue: the second of three", Ready.written(x, 0), "0a=200,0b=191");
    }

    private static void glueRefused() {
        LostZeros x = Ready.withTapes(3);
        due("glue: without readings", x.glue(0, 1), 5);
        x.read(0, 0, 0);
        x.read(1, 1, 0);
        due("glue: apart", x.glue(0, 1), 5);
        x.read(2, 0, 0);
        x.read(2, 1, 600);
        x.read(1, 2, 400);
        due("glue: 1000", x.glue(0, 1), 4);
        due("glue: refused", x.count(9), 3);
        due("glue: none went", x.count(0), 3);
        due("glue: none came", x.tapeOf(0, 0), 1);
        x.lose(1, 2);
        x.read(1, 2, 399);
        due("glue: 999, through a third tape", x.glue(0, 1), 12);
        CHECK.dueText("glue: 999 written", Ready.written(x, 0), "0a=0,0b=600,0c=999");
        x.tape();
        x.read(2, 0, 999);
        x.read(2, 3, -1);
        due("glue: -1000", x.glue(0, 2), 4);
        x.lose(2, 3);
        x.read(2, 3, 0);
        due("glue: -999", x.glue(0, 2), 11);
        due("glue: reads -999", x.reading(0, 3), 99001);
    }

    private static void read() {
        LostZeros x = Ready.withTapes(2);
        due("read: first", x.read(0, 0, -999), 11);
        due("read: second", x.read(0, 11, 999), 12);
        due("read: there already", x.read(0, 0, 3), 1);
        due("read: there already, the same", x.read(0, 0, -999), 1);
        due("read: joins", x.read(1, 11, 10), 13);
        due("read: another follows", x.read(1, 0, 10), 2);
        due("read: out of range follows", x.read(1, 0, -999), 2);
        due("read: refused", x.count(9), 4);
        due("read: taken", x.count(8), 3);
        x.lose(1, 11);
        x.read(1, 11, 999);
        due("read: what follows", x.read(1, 0, -999), 14);
        due("read: tape -1", x.read(-1, 0, 0), -1);
        due("read: no tape", x.read(2, 0, 0), -1);
        due("read: point -1", x.read(0, -1, 0), -1);
        due("read: point 12", x.read(0, 12, 0), -1);
        due("read: 1000", x.read(0, 1, 1000), -1);
        due("read: -1000", x.read(0, 1, -1000), -1);
        due("read: least of all", x.read(MIN, MIN, MIN), -1);
        due("read: greatest of all", x.read(MAX, MAX, MAX), -1);
        due("read: errors are not counted", x.count(9), 4);
    }

    private static void readLimit() {
        LostZeros x = Ready.withForty();
        due("limit: readings", x.count(1), 40);
        due("limit: one more", x.read(4, 0, 0), -3);
        due("limit: ahead of the reason 1", x.read(0, 0, 0), -3);
        due("limit: wrong argument first", x.read(0, 0, 1000), -1);
        due("limit: nothing refused", x.count(9), 0);
        due("limit: whyNot looks at reasons", x.whyNot(0, 0, 0), 1);
        due("limit: whyNot has no limit", x.whyNot(4, 0, 0), 0);
        due("limit: lose", x.lose(0, 0), 49);
        due("limit: fits again", x.read(4, 0, 0), 50);
    }

    private static void lose() {
        LostZeros x = Ready.withTapes(2);
        x.read(0, 3, 5);
        x.read(0, 4, 6);
        due("lose: left", x.lose(0, 3), 11);
        due("lose: gone", x.reading(0, 3), -4);
        due("lose: apart", x.difference(3, 4, 0), -4);
        due("lose: none there", x.lose(0, 3), 3);
        due("lose: another tape's", x.lose(1, 4), 3);
        due("lose: refused", x.count(9), 2);
        due("lose: last", x.lose(0, 4), 10);
        due("lose: taken stays", x.count(8), 2);
        due("lose: tape -1", x.lose(-1, 0), -1);
        due("lose: no tape", x.lose(2, 0), -1);
        due("lose: point -1", x.lose(0, -1), -1);
        due("lose: point 12", x.lose(0, 12), -1);
    }

    private static void append() {
        LostZeros x = new LostZeros();
        due("append: 32", x.append(32), -1);
        due("append: 127", x.append(127), -1);
        due("append: least", x.append(MIN), -1);
        due("append: 33", x.append(33), 1);
        due("append: 126", x.append(126), 2);
        for (int length = 3; length <= 60; length++) {
            due("append: length", x.append('0'), length);
        }
        due("append: full", x.append('0'), -3);
        due("append: full, wrong code", x.append(32), -1);
        due("append: length stays", x.count(12), 60);
        due("append: no change", x.count(13), 0);
    }

    private static void clear() {
        LostZeros x = new LostZeros();
        due("clear: empty", x.clear(), 0);
        Ready.put(x, "0a=1");
        due("clear: four", x.clear(), 4);
        due("clear: nothing left", x.count(12), 0);
        due("clear: no change", x.count(13), 0);
        Ready.put(x, "1");
        due("clear: from the first sign again", x.fault(), 1);
        for (int length = 2; length <= 60; length++) {
            x.append('!');
        }
        due("clear: full", x.clear(), 60);
        due("clear: room again", x.append('!'), 1);
    }

    private static void faultOfOneText() {
        due("fault: empty", Ready.faultOf(""), 0);
        due("fault: tape 8", Ready.faultOf("8"), 0);
        due("fault: tape 7", Ready.faultOf("7"), 1);
        due("fault: sign below 0", Ready.faultOf("/"), 0);
        due("fault: comma first", Ready.faultOf(","), 0);
        due("fault: point m", Ready.faultOf("0m=1"), 1);
        due("fault: point l", Ready.faultOf("0l"), 2);
        due("fault: point A", Ready.faultOf("0A"), 1);
        due("fault: sign ahead of a", Ready.faultOf("0`"), 1);
        due("fault: no equals", Ready.faultOf("0a1"), 2);
        due("fault: no number", Ready.faultOf("0a="), 3);
        due("fault: comma for a number", Ready.faultOf("0a=,"), 3);
        due("fault: tapes need not be there", Ready.faultOf("7l=5"), -4);
        due("fault: the first of several", Ready.faultOf("0a=x!!"), 3);
    }

    private static void faultOfNumbers() {
        due("fault: 0", Ready.faultOf("0a=0"), -4);
        due("fault: -0", Ready.faultOf("0a=-0"), 4);
        due("fault: -", Ready.faultOf("0a=-"), 4);
        due("fault: --", Ready.faultOf("0a=--"), 4);
        due("fault: +", Ready.faultOf("0a=+1"), 3);
        due("fault: 00", Ready.faultOf("0a=00"), 4);
        due("fault: 05", Ready.faultOf("0a=05"), 4);
        due("fault: 9", Ready.faultOf("0a=9"), -4);
        due("fault: 10", Ready.faultOf("0a=10"), -4);
        due("fault: 999", Ready.faultOf("0a=999"), -4);
        due("fault: 1000", Ready.faultOf("0a=1000"), 6);
        due("fault: -999", Ready.faultOf("0a=-999"), -4);
        due("fault: -9990", Ready.faultOf("0a=-9990"), 7);
        due("fault: -01", Ready.faultOf("0a=-01"), 4);
        due("fault: colon is no digit", Ready.faultOf("0a=1:"), 4);
        due("fault: slash is no digit", Ready.faultOf("0a=1/"), 4);
        due("fault: minus behind a digit", Ready.faultOf("0a=1-"), 4);
    }

    private static void faultOfSeveralParts() {
        due("fault: comma last", Ready.faultOf("0a=5,"), 5);
        due("fault: comma behind 0", Ready.faultOf("0a=0,"), 5);
        due("fault: comma behind three digits", Ready.faultOf("0a=123,"), 7);
        due("fault: two commas", Ready.faultOf("0a=5,,"), 5);
        due("fault: two", Ready.faultOf("0a=5,1b=-6"), -4);
        due("fault: the same twice", Ready.faultOf("0a=5,0a=5"), -4);
        due("fault: in the second", Ready.faultOf("0a=5,1n"), 6);
        due("fault: 59 signs", Ready.faultOf(Ready.TWELVE), -4);
        due("fault: 60 signs", Ready.faultOf(Ready.TWELVE + "1"), -4);
        due("fault: texts of any length", Ready.faultOf(Ready.TWELVE + ","), 60);
    }

    private static void take() {
        LostZeros x = Ready.withTapes(2);
        Ready.put(x, "0a=1,1a=-4,0b=999,1l=0");
        due("take: all", x.take(), 4);
        due("take: none refused", x.count(9), 0);
        due("take: no stop", x.why(0), -4);
        due("take: pad is empty", x.count(12), 0);
        CHECK.dueText("take: first tape", Ready.written(x, 0), "0a=1,0b=999");
        CHECK.dueText("take: second tape", Ready.written(x, 1), "1a=-4,1l=0");
        due("take: counted", x.count(8), 4);
        due("take: one change", x.count(13), 3);
        due("take: undone at once", x.undo(), 2);
        due("take: nothing left of it", x.count(1), 0);
        due("take: taken are undone", x.count(8), 0);
        due("take: empty pad", x.take(), -2);
        Ready.put(x, "0a=1,");
        due("take: fault", x.take(), -2);
        due("take: pad stays", x.count(12), 5);
        due("take: no change", x.count(13), 2);
        Ready.put(x, "0a=1");
        due("take: the second contradicts", x.take(), 1);
    }

    private static void takeStops() {
        LostZeros x = Ready.withTapes(2);
        Ready.put(x, "0a=1,0b=2,1a=5,1b=7,1c=8");
        due("take: up to the refused one", x.take(), 3);
        due("take: counted as refused", x.count(9), 1);
        due("take: taken", x.count(8), 3);
        due("take: none behind it", x.reading(1, 2), -4);
        due("take: reason 2", x.why(0), 2);
        due("take: number", x.why(1), 3);
        due("take: position", x.why(2), 15);
        Ready.put(x, "0a=1");
        due("take: none", x.take(), 0);
        due("take: reason 1", x.why(0), 1);
        due("take: number 0", x.why(1), 0);
        due("take: position 0", x.why(2), 0);
        due("take: a change, too", x.count(13), 4);
        due("take: refused again", x.count(9), 2);
        x.undo();
        due("take: refused is undone", x.count(9), 1);
        due("take: why is not", x.why(0), 1);
    }

    private static void takeErrors() {
        LostZeros x = Ready.withTapes(1);
        Ready.put(x, "0a=-10,1a=3,0b=4");
        due("take: no such tape", x.take(), 1);
        due("take: the error", x.why(0), -1);
        due("take: its number", x.why(1), 1);
        due("take: its position", x.why(2), 7);
        due("take: not refused", x.count(9), 0);
        LostZeros full = Ready.withForty();
        full.lose(0, 9);
        Ready.put(full, "4a=2,0a=1,4b=0");
        due("take: up to 40", full.take(), 1);
        due("take: limit ahead of the reason", full.why(0), -3);
        due("take: at the second", full.why(2), 5);
        due("take: limit is not refused", full.count(9), 0);
    }

    private static void why() {
        LostZeros x = Ready.withTapes(1);
        due("why: no call", x.why(0), -4);
        due("why: -1", x.why(-1), -1);
        due("why: 3", x.why(3), -1);
        due("why: greatest", x.why(MAX), -1);
        Ready.put(x, "0a=1,0a=2");
        x.take();
        due("why: reason", x.why(0), 1);
        due("why: take with an error", x.take(), -2);
        due("why: it changes nothing", x.why(2), 5);
        x.save();
        x.undo();
        x.restore();
        due("why: not undone, not restored", x.why(1), 1);
        x.restore();
        Ready.put(x, "0c=1");
        due("why: all taken", x.take(), 1);
        due("why: no reason then", x.why(0), -4);
        due("why: no number then", x.why(1), -4);
        due("why: no position then", x.why(2), -4);
        due("why: 3 is wrong still", x.why(3), -1);
    }

    private static void sign() {
        LostZeros x = Ready.withTapes(8);
        due("sign: no readings", x.sign(7, 0), -4);
        x.read(7, 11, -999);
        x.read(7, 0, 0);
        x.read(7, 4, 10);
        x.read(7, 5, 5);
        x.read(7, 6, 100);
        x.read(7, 7, -20);
        x.read(7, 8, 909);
        String text = "7a=0,7e=10,7f=5,7g=100,7h=-20,7i=909,7l=-999";
        CHECK.dueText("sign: by rising points", Ready.written(x, 7), text);
        due("sign: last", x.sign(7, text.length() - 1), '9');
        due("sign: behind the last", x.sign(7, text.length()), -4);
        due("sign: greatest place", x.sign(7, MAX), -4);
        due("sign: place -1", x.sign(7, -1), -1);
        due("sign: least place", x.sign(7, MIN), -1);
        due("sign: tape -1", x.sign(-1, 0), -1);
        due("sign: no tape", x.sign(8, 0), -1);
        due("sign: no tape, place -1", x.sign(8, -1), -1);
        LostZeros longest = Ready.withTapes(1);
        StringBuilder all = new StringBuilder();
        for (int point = 0; point < 12; point++) {
            longest.read(0, point, -999);
            all.append(point > 0 ? "," : "").append("0").append((char) ('a' + point)).append("=-999");
        }
        CHECK.dueText("sign: the longest text", Ready.written(longest, 0), all.toString());
    }

    private static void reading() {
        LostZeros x = Ready.withTapes(2);
        x.read(0, 0, -999);
        x.read(0, 11, 999);
        x.read(1, 11, 0);
        due("reading: -999", x.reading(0, 0), 99001);
        due("reading: 999", x.reading(0, 11), 100999);
        due("reading: 0", x.reading(1, 11), 100000);
        due("reading: it only follows", x.reading(1, 0), -4);
        due("reading: none", x.reading(0, 5), -4);
        due("reading: tape -1", x.reading(-1, 0), -1);
        due("reading: no tape", x.reading(2, 0), -1);
        due("reading: point -1", x.reading(0, -1), -1);
        due("reading: point 12", x.reading(0, 12), -1);
    }

    private static void difference() {
        LostZeros x = Ready.withTapes(3);
        x.read(0, 0, 10);
        x.read(0, 5, 25);
        x.read(1, 5, 0);
        x.read(1, 9, -100);
        x.read(2, 7, 1);
        x.read(2, 8, 1);
        for (int way = 0; way <= 1; way++) {
            due("difference: on one tape", x.difference(0, 5, way), 100015);
            due("difference: back", x.difference(5, 0, way), 99985);
            due("difference: over two tapes", x.difference(0, 9, way), 99915);
            due("difference: over two tapes, back", x.difference(9, 0, way), 100085);
            due("difference: at the same place", x.difference(7, 8, way), 100000);
            due("difference: the same", x.difference(5, 5, way), 100000);
            due("difference: the same, without a reading", x.difference(11, 11, way), 100000);
            due("difference: apart", x.difference(0, 7, way), -4);
            due("difference: without a reading", x.difference(0, 11, way), -4);
            due("difference: from -1", x.difference(-1, 0, way), -1);
            due("difference: from 12", x.difference(12, 0, way), -1);
            due("difference: to -1", x.difference(0, -1, way), -1);
            due("difference: to 12", x.difference(0, 12, way), -1);
        }
        due("difference: way -1", x.difference(0, 5, -1), -1);
        due("difference: way 2", x.difference(0, 5, 2), -1);
    }

    private static void differenceOfLongChain() {
        LostZeros x = Ready.withTapes(8);
        for (int tape = 0; tape < 8; tape++) {
            x.read(tape, 11 - tape, -999);
            x.read(tape, 10 - tape, 999);
        }
        for (int way = 0; way <= 1; way++) {
            due("difference: the farthest", x.difference(11, 3, way), 115984);
            due("difference: the farthest, back", x.difference(3, 11, way), 84016);
            due("holding: a chain", x.holding(way), 16);
        }
        due("count: the farthest", x.count(5), 15984);
        due("zeros: the farthest", x.zeros(0, 7), 113986);
        due("follows: the farthest", x.follows(7, 11), 85015);
        due("point: the farthest", x.point(3, 3), 15984);
    }

    private static void follows() {
        LostZeros x = Ready.withTapes(3);
        x.read(0, 0, 10);
        x.read(0, 1, -7);
        x.read(1, 1, 999);
        due("follows: has a reading", x.follows(0, 0), 100010);
        due("follows: over another tape", x.follows(1, 0), 101016);
        due("follows: joins nothing", x.follows(1, 2), -4);
        due("follows: without readings", x.follows(2, 0), -4);
        due("follows: no change", x.count(1), 3);
        due("follows: tape -1", x.follows(-1, 0), -1);
        due("follows: no tape", x.follows(3, 0), -1);
        due("follows: point -1", x.follows(0, -1), -1);
        due("follows: point 12", x.follows(0, 12), -1);
    }

    private static void zeros() {
        LostZeros x = Ready.withTapes(3);
        x.read(0, 4, 10);
        x.read(1, 4, 3);
        due("zeros: second behind", x.zeros(0, 1), 100007);
        due("zeros: second ahead", x.zeros(1, 0), 99993);
        due("zeros: the same", x.zeros(1, 1), 100000);
        due("zeros: the same, without readings", x.zeros(2, 2), 100000);
        due("zeros: apart", x.zeros(0, 2), -4);
        due("zeros: -1", x.zeros(-1, 0), -1);
        due("zeros: other -1", x.zeros(0, -1), -1);
        due("zeros: none", x.zeros(3, 0), -1);
        due("zeros: other none", x.zeros(0, 3), -1);
        due("zeros: both none", x.zeros(3, 3), -1);
    }

    private static void whyNot() {
        LostZeros x = Ready.withTapes(3);
        x.read(0, 0, 10);
        x.read(0, 1, 20);
        x.read(1, 1, 5);
        due("whyNot: there already", x.whyNot(0, 0, 10), 1);
        due("whyNot: there already, another", x.whyNot(0, 0, 11), 1);
        due("whyNot: another follows", x.whyNot(1, 0, -4), 2);
        due("whyNot: it follows", x.whyNot(1, 0, -5), 0);
        due("whyNot: free", x.whyNot(2, 0, 999), 0);
        due("whyNot: nothing counted", x.count(9), 0);
        due("whyNot: no state", x.count(13), 4);
        due("whyNot: nothing read", x.count(1), 3);
        due("whyNot: tape -1", x.whyNot(-1, 0, 0), -1);
        due("whyNot: no tape", x.whyNot(3, 0, 0), -1);
        due("whyNot: point -1", x.whyNot(0, -1, 0), -1);
        due("whyNot: point 12", x.whyNot(0, 12, 0), -1);
        due("whyNot: 1000", x.whyNot(0, 0, 1000), -1);
        due("whyNot: -1000", x.whyNot(0, 0, -1000), -1);
    }

    private static void holding() {
        LostZeros x = Ready.withTapes(4);
        for (int way = 0; way <= 1; way++) {
            due("holding: none", x.holding(way), 0);
        }
        x.read(0, 0, 0);
        for (int way = 0; way <= 1; way++) {
            due("holding: one", x.holding(way), 1);
        }
        x.lose(0, 0);
        // Two rings, joined by the tape 2 between the points 1 and 4, and an end at 9.
        x.read(0, 0, 0);
        x.read(0, 1, 1);
        x.read(1, 0, 0);
        x.read(1, 1, 1);
        for (int way = 0; way <= 1; way++) {
            due("holding: a ring", x.holding(way), 0);
        }
        x.read(2, 1, 7);
        x.read(2, 4, 8);
        for (int way = 0; way <= 1; way++) {
            due("holding: a ring with an end", x.holding(way), 2);
        }
        x.read(3, 4, 3);
        x.read(3, 5, 4);
        x.tape();
        x.read(4, 4, 2);
        x.read(4, 5, 3);
        x.read(4, 9, 30);
        for (int way = 0; way <= 1; way++) {
            due("holding: between two rings, and an end", x.holding(way), 3);
        }
        due("holding: nothing is changed", x.count(1), 11);
        due("holding: no state", x.count(13), 4);
        due("holding: way -1", x.holding(-1), -1);
        due("holding: way 2", x.holding(2), -1);
    }

    private static void point() {
        LostZeros x = Ready.withTapes(3);
        x.read(0, 6, 50);
        x.read(0, 2, 10);
        x.read(1, 6, 0);
        x.read(1, 0, 30);
        x.read(2, 9, 5);
        due("point: two tapes", x.point(6, 0), 2);
        due("point: one tape", x.point(0, 0), 1);
        due("point: no tape", x.point(11, 0), 0);
        due("point: three together", x.point(0, 1), 3);
        due("point: alone with a reading", x.point(9, 1), 1);
        due("point: alone", x.point(11, 1), 1);
        due("point: first", x.point(2, 2), 0);
        due("point: second", x.point(6, 2), 1);
        due("point: third", x.point(0, 2), 2);
        due("point: alone is first", x.point(11, 2), 0);
        due("point: the first is not far", x.point(2, 3), 0);
        due("point: 40 far", x.point(6, 3), 40);
        due("point: 70 far", x.point(0, 3), 70);
        due("point: alone is not far", x.point(9, 3), 0);
        due("point: what -1", x.point(0, -1), -1);
        due("point: what 4", x.point(0, 4), -1);
        due("point: -1", x.point(-1, 0), -1);
        due("point: 12", x.point(12, 0), -1);
    }

    private static void pointsAtOnePlace() {
        LostZeros x = Ready.withTapes(1);
        x.read(0, 8, 5);
        x.read(0, 3, 5);
        x.read(0, 5, 5);
        x.read(0, 10, 4);
        due("point: the lowest first", x.point(3, 2), 1);
        due("point: the next", x.point(5, 2), 2);
        due("point: the greatest last", x.point(8, 2), 3);
        due("point: ahead of all", x.point(10, 2), 0);
        due("point: all one far", x.point(8, 3), 1);
        x.read(0, 0, -50);
        x.read(0, 1, -50);
        due("point: 0 ahead of all", x.point(0, 2), 0);
        due("point: 1 behind it", x.point(1, 2), 1);
        due("point: behind both", x.point(10, 2), 2);
        due("point: far from 0", x.point(10, 3), 54);
        due("count: clusters without the point 0", x.count(2), 7);
        x.lose(0, 1);
        due("point: far from 0 alone", x.point(10, 3), 54);
        x.shift(0, 50);
        x.lose(0, 0);
        x.read(0, 0, 200);
        due("count: far to the point 0", x.count(5), 146);
    }

    private static void tapeOf() {
        LostZeros x = Ready.withTapes(4);
        x.read(0, 7, 40);
        x.read(0, 3, -10);
        x.read(0, 5, -10);
        x.read(0, 4, 40);
        x.read(1, 3, 0);
        x.read(2, 1, 0);
        due("tapeOf: readings", x.tapeOf(0, 0), 4);
        due("tapeOf: least, lowest point", x.tapeOf(0, 1), 3);
        due("tapeOf: greatest, lowest point", x.tapeOf(0, 2), 4);
        due("tapeOf: spread", x.tapeOf(0, 3), 50);
        due("tapeOf: together", x.tapeOf(0, 4), 2);
        due("tapeOf: one reading, least", x.tapeOf(1, 1), 3);
        due("tapeOf: one reading, greatest", x.tapeOf(1, 2), 3);
        due("tapeOf: one reading, spread", x.tapeOf(1, 3), 0);
        due("tapeOf: alone with a reading", x.tapeOf(2, 4), 1);
        due("tapeOf: none, readings", x.tapeOf(3, 0), 0);
        due("tapeOf: none, least", x.tapeOf(3, 1), -4);
        due("tapeOf: none, greatest", x.tapeOf(3, 2), -4);
        due("tapeOf: none, spread", x.tapeOf(3, 3), 0);
        due("tapeOf: none, together", x.tapeOf(3, 4), 1);
        x.lose(1, 3);
        due("tapeOf: together no more", x.tapeOf(0, 4), 1);
        x.read(3, 0, 4);
        x.read(3, 6, 3);
        x.read(3, 9, 4);
        due("tapeOf: least behind the greatest", x.tapeOf(3, 1), 6);
        due("tapeOf: greatest at the point 0", x.tapeOf(3, 2), 0);
        x.shift(3, -4);
        due("tapeOf: spread below 0", x.tapeOf(3, 3), 1);
        x.read(3, 1, 50);
        x.lose(3, 6);
        due("tapeOf: least at the point 0", x.tapeOf(3, 1), 0);
        due("tapeOf: what -1", x.tapeOf(0, -1), -1);
        due("tapeOf: what 5", x.tapeOf(0, 5), -1);
        due("tapeOf: -1", x.tapeOf(-1, 0), -1);
        due("tapeOf: no tape", x.tapeOf(4, 0), -1);
    }

    private static void countOfGroups() {
        LostZeros x = Ready.withTapes(4);
        int[] bare = {4, 0, 12, 0, 0, 0, 12, 4};
        for (int what = 0; what < bare.length; what++) {
            due("count: without readings, " + what, x.count(what), bare[what]);
        }
        x.read(0, 11, 0);
        due("count: one cluster read", x.count(3), 1);
        due("count: none missing", x.count(4), 0);
        x.read(0, 10, 300);
        x.read(1, 0, 5);
        x.read(2, 4, 5);
        x.read(2, 5, -5);
        int[] want = {4, 5, 10, 3, 2, 300, 7, 1, 5, 0, 0, 0, 0, 4};
        for (int what = 0; what < want.length; what++) {
            due("count: three clusters, " + what, x.count(what), want[what]);
        }
        due("count: -1", x.count(-1), -1);
        due("count: 14", x.count(14), -1);
        due("count: least", x.count(MIN), -1);
    }

    private static void countOfDeeds() {
        LostZeros x = Ready.withTapes(2);
        x.read(0, 0, 1);
        x.read(0, 0, 1);
        x.lose(1, 1);
        x.glue(0, 1);
        x.read(1, 0, 1);
        x.cut(0, 1);
        x.glue(2, 2);
        x.glue(1, 2);
        due("count: taken", x.count(8), 2);
        due("count: refused", x.count(9), 3);
        due("count: cuts", x.count(10), 1);
        due("count: glued, first", x.count(11), 1);
        x.cut(0, 0);
        due("count: cuts, second", x.count(10), 2);
        Ready.put(x, "0");
        due("count: pad", x.count(12), 1);
        x = Ready.withTapes(1);
        x.read(0, 3, -500);
        x.read(0, 4, -510);
        due("count: points, not zeros, are far", x.count(5), 10);
    }

    private static void known() {
        LostZeros x = Ready.withTapes(1);
        x.read(0, 0, 0);
        CHECK.dueDouble("known: one reading", x.known(), 0.0);
        x.read(0, 1, 0);
        CHECK.dueDouble("known: one pair", x.known(), 1.0 / 66.0);
        x.tape();
        x.read(1, 5, 0);
        x.read(1, 6, 0);
        x.read(1, 7, 0);
        CHECK.dueDouble("known: four pairs", x.known(), 4.0 / 66.0);
        for (int point = 2; point < 12; point++) {
            x.read(0, point, 0);
        }
        CHECK.dueDouble("known: all", x.known(), 1.0);
    }

    private static void ifRead() {
        LostZeros x = Ready.withTapes(3);
        due("ifRead: nothing read", x.ifRead(0, 0), 0);
        x.read(0, 0, 1);
        x.read(0, 1, 2);
        x.read(1, 5, 0);
        x.read(1, 6, 0);
        x.read(1, 7, 0);
        due("ifRead: two and three", x.ifRead(0, 5), 6);
        due("ifRead: three and two", x.ifRead(1, 1), 6);
        due("ifRead: two and one", x.ifRead(0, 11), 2);
        due("ifRead: there already", x.ifRead(0, 0), 0);
        due("ifRead: without readings", x.ifRead(2, 5), 0);
        x.read(2, 1, 7);
        due("ifRead: together already", x.ifRead(2, 0), 0);
        due("ifRead: nothing is changed", x.count(1), 6);
        due("ifRead: tape -1", x.ifRead(-1, 0), -1);
        due("ifRead: no tape", x.ifRead(3, 0), -1);
        due("ifRead: point -1", x.ifRead(0, -1), -1);
        due("ifRead: point 12", x.ifRead(0, 12), -1);
    }

    private static void bestReading() {
        LostZeros x = Ready.withTapes(3);
        due("bestReading: none tells", x.bestReading(), 0);
        x.read(0, 7, 5);
        due("bestReading: of the tape 0", x.bestReading(), 0);
        x.read(2, 8, 5);
        x.read(2, 9, 5);
        due("bestReading: of the tape 0, at another point", x.bestReading(), 8);
        x = Ready.withTapes(3);
        x.read(2, 5, 0);
        due("bestReading: one point", x.bestReading(), 24);
        x.read(1, 0, 0);
        x.read(1, 3, 0);
        due("bestReading: the least number", x.bestReading(), 13);
        x.read(2, 6, 0);
        due("bestReading: two and two", x.bestReading(), 17);
        x.lose(2, 5);
        x.lose(2, 6);
        due("bestReading: two and one", x.bestReading(), 13);
        x.drop(0);
        x.drop(0);
        x.drop(0);
        due("bestReading: no tape", x.bestReading(), -4);
    }

    private static void undo() {
        LostZeros x = Ready.withTapes(1);
        x.read(0, 0, 5);
        Ready.put(x, "0b=");
        x.save();
        due("undo: read", x.undo(), 1);
        due("undo: no reading", x.count(1), 0);
        due("undo: not taken", x.count(8), 0);
        due("undo: pad stays", x.count(12), 3);
        due("undo: tape", x.undo(), 0);
        due("undo: no tape", x.count(0), 0);
        due("undo: none left", x.undo(), -2);
        due("undo: snapshot stays", x.restore(), 1);
        due("undo: restore is a change", x.undo(), 0);
        due("undo: no tape again", x.count(0), 0);
    }

    private static void undoOfEachChange() {
        for (int change = 0; change < 16; change++) {
            LostZeros x = withRoomForOneState();
            String before = Views.state(x);
            due("undo: the change " + change, change(x, change) >= 0 ? 1 : 0, 1);
            due("undo: states with the change " + change, x.count(13), 4);
            due("undo: states after it", x.undo(), 3);
            CHECK.dueText("undo: after the change " + change, Views.state(x), before);
        }
    }

    private static LostZeros withRoomForOneState() {
        LostZeros x = Ready.withTapes(3);
        x.read(0, 0, 5);
        x.read(0, 1, 15);
        x.read(1, 1, 0);
        x.save();
        x.read(2, 2, 2);
        x.shift(0, 0);
        due("undo: room for one state", x.undo(), 3);
        return x;
    }

    private static int change(LostZeros x, int change) {
        switch (change) {
            case 0: return x.tape();
            case 1: return x.drop(0);
            case 2: return x.drop(2);
            case 3: return x.read(2, 3, 3);
            case 4: return x.read(0, 0, 3);
            case 5: return x.read(1, 0, 3);
            case 6: return x.lose(1, 1);
            case 7: return x.lose(1, 0);
            case 8: return x.shift(0, 7);
            case 9: return x.shift(0, 999);
            case 10: return x.cut(0, 10);
            case 11: return x.cut(0, -999);
            case 12: return x.glue(1, 0);
            case 13: return x.glue(0, 2);
            case 14: Ready.put(x, "2l=1,2k=7,2k=8"); return x.take();
            default: return x.restore();
        }
    }

    private static void historyLimit() {
        LostZeros x = new LostZeros();
        int[] want = {1, 2, 3, 4, 4, 4};
        for (int tape = 0; tape < want.length; tape++) {
            x.tape();
            due("history: states", x.count(13), want[tape]);
        }
        for (int states = 3; states >= 0; states--) {
            due("history: undo", x.undo(), states);
            due("history: tapes", x.count(0), states + 2);
        }
        due("history: the oldest are dropped", x.undo(), -2);
        due("history: what is left", x.count(0), 2);
        x.tape();
        due("history: from there on", x.count(13), 1);
    }

    private static void save() {
        LostZeros x = Ready.withTapes(1);
        due("save: none", x.save(), 0);
        x.read(0, 0, 1);
        x.read(0, 1, 1);
        due("save: two", x.save(), 2);
        due("save: no change", x.count(13), 3);
        x.drop(0);
        due("save: in place of the first one", x.restore(), 2);
        due("save: still none of the history", x.count(13), 4);
    }

    private static void restore() {
        LostZeros x = Ready.withTapes(2);
        due("restore: none", x.restore(), -2);
        x.read(0, 0, 1);
        x.read(0, 0, 2);
        x.cut(0, 0);
        x.save();
        String saved = Views.state(x);
        x.read(1, 1, 1);
        x.drop(0);
        x.cut(0, 0);
        x.lose(0, 0);
        Ready.put(x, "0a=");
        String before = Views.state(x);
        due("restore: readings", x.restore(), 1);
        CHECK.dueText("restore: all of it", Views.state(x), saved);
        due("restore: pad stays", x.count(12), 3);
        due("restore: a change", x.count(13), 4);
        due("restore: undone", x.undo(), 3);
        CHECK.dueText("restore: what was before it", Views.state(x), before);
        x.restore();
        x.read(1, 2, 3);
        due("restore: it stays", x.restore(), 1);
        CHECK.dueText("restore: unchanged", Views.state(x), saved);
    }

    private static void errorsChangeNothing() {
        LostZeros x = Ready.withForty();
        x.tape();
        x.tape();
        x.tape();
        Ready.put(x, "0a=1000");
        String before = Views.state(x);
        int[] answers = {
            x.tape(), x.drop(8), x.shift(0, 1000), x.cut(0, 1000), x.cut(0, 0), x.glue(0, 0),
            x.read(0, 0, 1000), x.read(4, 0, 0), x.lose(0, 12), x.append(32), x.take(), x.restore()
        };
        for (int answer : answers) {
            due("errors: all are errors", answer < 0 ? 1 : 0, 1);
        }
        CHECK.dueText("errors: nothing is changed", Views.state(x), before);
        due("errors: the pad stays", x.count(12), 7);
        due("errors: no states", x.undo(), 3);
        due("errors: the latest change is undone", x.count(0), 7);
    }

    private static void looksChangeNothing() {
        LostZeros x = Ready.withForty();
        String before = Views.state(x);
        for (int number = 0; number < 14; number++) {
            x.count(number);
            x.point(number, 2);
            x.tapeOf(number, 4);
            x.follows(0, number);
            x.ifRead(4, number);
            x.whyNot(4, number, 5);
            x.reading(0, number);
            x.sign(1, number);
            x.difference(0, number, number % 2);
            x.zeros(0, number);
        }
        x.holding(0);
        x.holding(1);
        x.known();
        x.bestReading();
        x.fault();
        x.why(0);
        CHECK.dueText("looks: nothing is changed", Views.state(x), before);
        due("looks: no states", x.undo(), 3);
        due("looks: the latest change is undone", x.count(1), 39);
    }
}
