import java.util.function.Consumer;

/**
 * The edges of tapes, readings and deeds (promises 1 to 8): each method stands for the sentence of
 * the document above it.
 */
public final class DeedEdgesTest {
    private static final Check CHECK = new Check("DeedEdgesTest");

    public static void main(String[] args) {
        newObjectHasNoTapes();
        eightTapesAtMost();
        tapeComesWithoutReadings();
        numbersInTheOrderOfComing();
        firstGoes();
        middleGoes();
        lastGoes();
        otherGoesByGlue();
        goneTapeLeavesItsPoints();
        dropTellsHowManyAreLost();
        readAtBothEnds();
        fortyReadingsAtMost();
        otherDeedsWithFortyReadings();
        reasonOne();
        reasonTwo();
        reasonsOneAndTwo();
        reasonTwoOutOfReach();
        sameNumberFollows();
        reasonThree();
        loseTheOnlyOne();
        shiftInsideAndOutside();
        shiftWithoutReadings();
        shiftByNothing();
        shiftOverTheWholeRange();
        cutAtTheMark();
        cutEitherWithoutReadings();
        cutInsideAndOutside();
        cutLooksAtWhatGoesOnly();
        cutGetsTheGreatestNumber();
        cutWithEightTapes();
        cutZerosAreForgotten();
        glueReasonFive();
        glueReasonFiveAheadOfFour();
        glueInsideAndOutsideAbove();
        glueInsideAndOutsideBelow();
        glueKeepsWhatIsThere();
        glueReadsAsItWould();
        glueOfWholeTapes();
        refusedIsCountedAlone();
        CHECK.end();
    }

    private static void due(String what, long got, long want) {
        CHECK.due(what, got, want);
    }

    private static void dueWritten(String what, LostZeros x, String want) {
        CHECK.dueText(what, Ready.writtenAll(x), want);
    }

    /** "Creates a table without tapes." */
    private static void newObjectHasNoTapes() {
        LostZeros x = new LostZeros();
        due("new: tapes", x.count(0), 0);
        due("new: readings", x.count(1), 0);
        due("new: the tape 0", x.tapeOf(0, 0), -1);
        due("new: the first one's number", x.tape(), 0);
    }

    /** "There are at most 8 tapes"; "LIMIT_REACHED if there are 8." */
    private static void eightTapesAtMost() {
        LostZeros x = Ready.withTapes(7);
        due("8 tapes: the eighth", x.tape(), 7);
        due("8 tapes: the ninth", x.tape(), -3);
        due("8 tapes: tapes", x.count(0), 8);
        due("8 tapes: one goes", x.drop(7), 0);
        due("8 tapes: one comes", x.tape(), 7);
        due("8 tapes: the ninth again", x.tape(), -3);
    }

    /** "A tape comes, without readings", also where the last one had some. */
    private static void tapeComesWithoutReadings() {
        LostZeros x = Ready.withAll();
        due("tape: the last one goes", x.drop(7), 5);
        due("tape: a new one", x.tape(), 7);
        due("tape: it has none", x.tapeOf(7, 0), 0);
        due("tape: the first one goes", x.drop(0), 5);
        due("tape: another new one", x.tape(), 7);
        due("tape: it has none either", x.tapeOf(7, 0), 0);
        due("tape: the one ahead of it has none", x.tapeOf(6, 0), 0);
        due("tape: the readings that are left", x.count(1), 30);
    }

    /** "numbered from 0 in the order in which they came" */
    private static void numbersInTheOrderOfComing() {
        LostZeros x = new LostZeros();
        for (int tape = 0; tape < 8; tape++) {
            due("order: number", x.tape(), tape);
            x.read(tape, 11 - tape, tape);
        }
        dueWritten("order", x, "0l=0;1k=1;2j=2;3i=3;4h=4;5g=5;6f=6;7e=7;");
    }

    private static LostZeros withFour() {
        LostZeros x = Ready.withTapes(4);
        for (int tape = 0; tape < 4; tape++) {
            x.read(tape, tape, 100 + tape);
        }
        return x;
    }

    /** "when one goes, those with greater numbers get numbers that are 1 less": the first one. */
    private static void firstGoes() {
        LostZeros x = withFour();
        due("first goes: lost", x.drop(0), 1);
        dueWritten("first goes", x, "0b=101;1c=102;2d=103;");
        due("first goes: the last number is none", x.read(3, 5, 0), -1);
        due("first goes: read by the new number", x.read(2, 5, 0), 14);
        dueWritten("first goes: who has it", x, "0b=101;1c=102;2d=103,2f=0;");
    }

    /** "when one goes, those with greater numbers get numbers that are 1 less": one between. */
    private static void middleGoes() {
        LostZeros x = withFour();
        due("middle goes: lost", x.drop(2), 1);
        dueWritten("middle goes", x, "0a=100;1b=101;2d=103;");
        due("middle goes: shift by the new number", x.shift(2, -3), 11);
        due("middle goes: who is shifted", x.reading(2, 3), 100100);
        due("middle goes: joined by the new number", x.read(2, 1, 105), 14);
        due("middle goes: zeros by the new number", x.zeros(1, 2), 99996);
        due("middle goes: follows by the new number", x.follows(1, 3), 100096);
    }

    /** "when one goes, those with greater numbers get numbers that are 1 less": there is none. */
    private static void lastGoes() {
        LostZeros x = withFour();
        due("last goes: lost", x.drop(3), 1);
        dueWritten("last goes", x, "0a=100;1b=101;2c=102;");
        due("last goes: its number comes again", x.tape(), 3);
        due("last goes: without its reading", x.reading(3, 3), -4);
    }

    /** The same, where the other one goes by glue(): it stands ahead of, or behind the one. */
    private static void otherGoesByGlue() {
        LostZeros x = withFour();
        x.read(2, 0, 7);
        due("glue: the other one ahead", x.glue(2, 0), 10);
        dueWritten("glue: the other one ahead went", x, "0b=101;1a=7,1c=102;2d=103;");
        x = withFour();
        x.read(2, 0, 7);
        due("glue: the other one behind", x.glue(0, 2), 11);
        dueWritten("glue: the other one behind went", x, "0a=100,0c=195;1b=101;2d=103;");
        due("glue: the last number is none", x.tapeOf(3, 0), -1);
    }

    /** "A tape goes, with its readings": what hung together by them alone does no more. */
    private static void goneTapeLeavesItsPoints() {
        LostZeros x = Ready.withTapes(3);
        x.read(0, 0, 1);
        x.read(1, 0, 2);
        x.read(1, 1, 2);
        x.read(2, 1, 3);
        due("gone: together by the tape 1", x.zeros(0, 2), 99998);
        due("gone: lost", x.drop(1), 2);
        due("gone: apart", x.zeros(0, 1), -4);
        due("gone: points apart", x.difference(0, 1, 0), -4);
        due("gone: points apart, told in the other way", x.difference(0, 1, 1), -4);
        due("gone: readings", x.count(1), 2);
    }

    /** "Returns how many readings are lost by that": none, and as many as can be. */
    private static void dropTellsHowManyAreLost() {
        LostZeros x = Ready.withTapes(2);
        for (int point = 0; point < 12; point++) {
            x.read(1, point, point);
        }
        due("drop: without readings", x.drop(0), 0);
        due("drop: with a reading at each point", x.drop(0), 12);
        due("drop: no reading is left", x.count(1), 0);
        due("drop: no tape is left", x.count(0), 0);
    }

    /** "a reading, -999 to 999" */
    private static void readAtBothEnds() {
        LostZeros x = Ready.withTapes(1);
        due("read: -999", x.read(0, 0, -999), 11);
        due("read: 999", x.read(0, 11, 999), 12);
        due("read: -1000", x.read(0, 1, -1000), -1);
        due("read: 1000", x.read(0, 1, 1000), -1);
        due("read: the low end", x.reading(0, 0), 99001);
        due("read: the high end", x.reading(0, 11), 100999);
        due("read: nothing else", x.count(1), 2);
    }

    /** "There are at most 40 readings"; "LIMIT_REACHED if there are 40." */
    private static void fortyReadingsAtMost() {
        LostZeros x = Ready.withForty();
        due("40: readings", x.count(1), 40);
        due("40: one more", x.read(4, 11, 5), -3);
        due("40: one is lost", x.lose(3, 9), 49);
        due("40: the fortieth", x.read(4, 11, 5), 50);
        due("40: again one more", x.read(4, 10, 5), -3);
        due("40: a tape goes", x.drop(4), 1);
        due("40: again the fortieth", x.read(3, 9, 30), 50);
        due("40: taken", x.count(8), 42);
    }

    /** The limit is one of readings that come: no other deed is kept back by 40 of them. */
    private static void otherDeedsWithFortyReadings() {
        LostZeros x = Ready.withForty();
        due("40: shift", x.shift(0, 900), 20);
        due("40: a tape", x.tape(), 5);
        due("40: cut", x.cut(1, 16), 15);
        due("40: glue", x.glue(1, 6), 15);
        due("40: all are there", x.count(1), 40);
        due("40: save", x.save(), 40);
        due("40: restore", x.restore(), 40);
        due("40: the others are without", x.count(7), 2);
    }

    /** "1: the tape has a reading there already", also the same number. */
    private static void reasonOne() {
        LostZeros x = Ready.withTapes(2);
        x.read(0, 0, 5);
        due("reason 1: the same number", x.read(0, 0, 5), 1);
        due("reason 1: it stays", x.reading(0, 0), 100005);
        due("reason 1: told ahead", x.whyNot(0, 0, 5), 1);
        due("reason 1: not for another tape", x.read(1, 0, 5), 12);
        due("reason 1: not for another point", x.read(0, 1, 5), 13);
    }

    /** "2: the tape and the point hang together, and another number follows for it": 1 off. */
    private static void reasonTwo() {
        LostZeros x = Ready.withTapes(2);
        x.read(0, 0, 10);
        x.read(0, 1, 30);
        x.read(1, 1, 5);
        due("reason 2: 1 below", x.read(1, 0, -16), 2);
        due("reason 2: 1 above", x.read(1, 0, -14), 2);
        due("reason 2: told ahead, 1 below", x.whyNot(1, 0, -16), 2);
        due("reason 2: told ahead, 1 above", x.whyNot(1, 0, -14), 2);
        due("reason 2: it follows", x.whyNot(1, 0, -15), 0);
        due("reason 2: none of them was taken", x.count(1), 3);
        due("reason 2: what follows is taken", x.read(1, 0, -15), 14);
    }

    /** "It is refused for the first of these reasons that is so": 1 and 2 are so at once. */
    private static void reasonsOneAndTwo() {
        LostZeros x = Ready.withTapes(1);
        x.read(0, 0, 10);
        due("reasons 1 and 2", x.read(0, 0, 11), 1);
        due("reasons 1 and 2, told ahead", x.whyNot(0, 0, 11), 1);
        Ready.put(x, "0a=11");
        due("reasons 1 and 2: none is taken", x.take(), 0);
        due("reasons 1 and 2, of the pad", x.why(0), 1);
        due("reasons 1 and 2: counted once each", x.count(9), 2);
    }

    /** "another number follows": also one that no tape could read. */
    private static void reasonTwoOutOfReach() {
        LostZeros x = Ready.withTapes(2);
        x.read(0, 0, -999);
        x.read(0, 1, 999);
        x.read(1, 0, 999);
        due("reason 2: 2997 follows", x.follows(1, 1), 102997);
        due("reason 2: the greatest", x.read(1, 1, 999), 2);
        due("reason 2: the least", x.read(1, 1, -999), 2);
    }

    /** What hangs together may be read, if its number follows: this is neither 1 nor 2. */
    private static void sameNumberFollows() {
        LostZeros x = Ready.withTapes(2);
        x.read(0, 0, 0);
        x.read(0, 1, 999);
        x.read(1, 0, 0);
        due("follows: 999, told ahead", x.whyNot(1, 1, 999), 0);
        due("follows: 999", x.read(1, 1, 999), 14);
        x.read(0, 2, -999);
        due("follows: -999", x.read(1, 2, -999), 16);
        due("follows: nothing was refused", x.count(9), 0);
    }

    /** "refused for the reason 3, if there is none" */
    private static void reasonThree() {
        LostZeros x = Ready.withTapes(2);
        due("reason 3: no readings", x.lose(0, 0), 3);
        x.read(0, 0, 5);
        x.read(0, 1, 5);
        x.read(1, 1, 5);
        due("reason 3: it only follows", x.lose(1, 0), 3);
        due("reason 3: there is one", x.lose(0, 0), 12);
        due("reason 3: it is gone", x.lose(0, 0), 3);
        due("reason 3: the others stay", x.count(1), 2);
        due("reason 3: counted", x.count(9), 3);
    }

    /** "Returns 10 and how many readings are left": 0, and 39. */
    private static void loseTheOnlyOne() {
        LostZeros x = Ready.withTapes(1);
        x.read(0, 11, 0);
        due("lose: the only one", x.lose(0, 11), 10);
        due("lose: none is there", x.reading(0, 11), -4);
        due("lose: one of forty", Ready.withForty().lose(3, 0), 49);
    }

    /** "refused for the reason 4, if one would be below -999 or above 999" */
    private static void shiftInsideAndOutside() {
        LostZeros x = Ready.withTapes(1);
        x.read(0, 0, -500);
        x.read(0, 1, 0);
        x.read(0, 2, 500);
        due("shift: to 1000", x.shift(0, 500), 4);
        due("shift: to -1000", x.shift(0, -500), 4);
        dueWritten("shift: refused", x, "0a=-500,0b=0,0c=500;");
        due("shift: to 999", x.shift(0, 499), 13);
        dueWritten("shift: up", x, "0a=-1,0b=499,0c=999;");
        due("shift: 1 more", x.shift(0, 1), 4);
        due("shift: to -999", x.shift(0, -998), 13);
        dueWritten("shift: down", x, "0a=-999,0b=-499,0c=1;");
        due("shift: 1 less", x.shift(0, -1), 4);
        due("shift: refused", x.count(9), 4);
    }

    /** A tape without readings has none that would be out of range. */
    private static void shiftWithoutReadings() {
        LostZeros x = Ready.withTapes(2);
        x.read(0, 0, 999);
        x.read(0, 1, -999);
        due("shift: without readings, up", x.shift(1, 999), 10);
        due("shift: without readings, down", x.shift(1, -999), 10);
        dueWritten("shift: another tape stays", x, "0a=999,0b=-999;;");
    }

    /** By 0 all stay, also those at both ends. */
    private static void shiftByNothing() {
        LostZeros x = Ready.withTapes(1);
        x.read(0, 0, 999);
        x.read(0, 1, -999);
        due("shift: by 0", x.shift(0, 0), 12);
        due("shift: by 1", x.shift(0, 1), 4);
        due("shift: by -1", x.shift(0, -1), 4);
        dueWritten("shift: neither moved", x, "0a=999,0b=-999;");
    }

    /** "by: -999 to 999", from the one end of the readings to 0 and to the other end. */
    private static void shiftOverTheWholeRange() {
        LostZeros x = Ready.withTapes(1);
        x.read(0, 6, 999);
        due("shift: by -999", x.shift(0, -999), 11);
        due("shift: to 0", x.reading(0, 6), 100000);
        due("shift: by -999 again", x.shift(0, -999), 11);
        due("shift: to the low end", x.reading(0, 6), 99001);
        due("shift: below it", x.shift(0, -999), 4);
        due("shift: by 999", x.shift(0, 999), 11);
        due("shift: back to 0", x.reading(0, 6), 100000);
    }

    /** "the readings of it that are the mark or more go to a new tape": one below, at, one above. */
    private static void cutAtTheMark() {
        LostZeros x = Ready.withTapes(1);
        x.read(0, 0, 51);
        x.read(0, 1, 49);
        x.read(0, 2, 50);
        due("cut: two go", x.cut(0, 50), 12);
        dueWritten("cut: at the mark", x, "0b=49;1a=1,1c=0;");
        x = Ready.withTapes(1);
        x.read(0, 0, -7);
        x.read(0, 1, -6);
        due("cut: at a mark below 0", x.cut(0, -6), 11);
        dueWritten("cut: below 0", x, "0a=-7;1b=0;");
    }

    /** "Either can be without readings then", or both. */
    private static void cutEitherWithoutReadings() {
        LostZeros x = Ready.withTapes(1);
        due("cut: none at all", x.cut(0, 0), 10);
        x.read(0, 0, -999);
        x.read(0, 11, 998);
        due("cut: none goes", x.cut(0, 999), 10);
        dueWritten("cut: the new one without", x, "0a=-999,0l=998;;;");
        x.lose(0, 11);
        due("cut: all go", x.cut(0, -999), 11);
        dueWritten("cut: the old one without", x, ";;;3a=0;");
        due("cut: cuts", x.count(10), 3);
    }

    /** "It is refused for the reason 4, if a reading would be above 999." */
    private static void cutInsideAndOutside() {
        LostZeros x = Ready.withTapes(1);
        x.read(0, 0, 0);
        x.read(0, 1, 1);
        due("cut: 1 would be 1000", x.cut(0, -999), 4);
        due("cut: 1 would be 999", x.cut(0, -998), 12);
        dueWritten("cut: 999", x, ";1a=998,1b=999;");
        x = Ready.withTapes(1);
        x.read(0, 0, 999);
        due("cut: 999 would be 1000", x.cut(0, -1), 4);
        due("cut: no tape came", x.count(0), 1);
        due("cut: it is no cut", x.count(10), 0);
        due("cut: 999 would be 999", x.cut(0, 0), 11);
        due("cut: it is", x.reading(1, 0), 100999);
        due("cut: 999 at 999", x.cut(1, 999), 11);
        due("cut: it is 0 then", x.reading(2, 0), 100000);
    }

    /** None that stays is looked at, and none that goes can be below 0. */
    private static void cutLooksAtWhatGoesOnly() {
        LostZeros x = Ready.withTapes(1);
        x.read(0, 0, -999);
        x.read(0, 1, 999);
        due("cut: -999 stays", x.cut(0, 1), 11);
        dueWritten("cut: 998", x, "0a=-999;1b=998;");
        due("cut: -999 goes", x.cut(0, -999), 11);
        dueWritten("cut: 0", x, ";1b=998;2a=0;");
    }

    /** "which gets the greatest number", also where an earlier tape is cut. */
    private static void cutGetsTheGreatestNumber() {
        LostZeros x = withFour();
        due("cut: the tape 1 of 4", x.cut(1, 100), 11);
        dueWritten("cut: to the number 4", x, "0a=100;;2c=102;3d=103;4b=1;");
    }

    /** "LIMIT_REACHED if there are 8 tapes", with 7 there is none. */
    private static void cutWithEightTapes() {
        LostZeros x = Ready.withTapes(7);
        x.read(6, 0, 5);
        due("cut: the eighth", x.cut(6, 5), 11);
        due("cut: it reads", x.reading(7, 0), 100000);
        due("cut: the ninth", x.cut(7, 0), -3);
        due("cut: the ninth, without readings", x.cut(0, 0), -3);
        due("cut: cuts", x.count(10), 1);
        due("cut: one goes", x.drop(0), 0);
        due("cut: the eighth again", x.cut(6, 0), 11);
    }

    /** "nobody remembers how far the zeros of both are from each other", but by another way. */
    private static void cutZerosAreForgotten() {
        LostZeros x = Ready.withTapes(2);
        x.read(0, 0, 0);
        x.read(0, 1, 100);
        due("cut: apart", x.cut(0, 100), 11);
        due("cut: zeros apart", x.zeros(0, 2), -4);
        due("cut: not to be glued", x.glue(0, 2), 5);
        x.undo();
        x.undo();
        x.read(1, 0, 7);
        x.read(1, 1, 107);
        due("cut: another tape holds them", x.cut(0, 100), 11);
        due("cut: zeros together", x.zeros(0, 2), 100100);
        due("cut: glued again", x.glue(0, 2), 11);
        dueWritten("cut: as it was", x, "0a=0,0b=100;1a=7,1b=107;");
    }

    /** "5: their zeros do not hang together": without readings on both, on one, and with some. */
    private static void glueReasonFive() {
        LostZeros x = Ready.withTapes(2);
        due("reason 5: both without", x.glue(0, 1), 5);
        x.read(0, 0, 0);
        due("reason 5: the other one without", x.glue(0, 1), 5);
        due("reason 5: the one without", x.glue(1, 0), 5);
        x.read(1, 1, 0);
        due("reason 5: both with one", x.glue(0, 1), 5);
        due("reason 5: none went", x.count(0), 2);
        due("reason 5: not glued", x.count(11), 0);
        x.read(1, 0, 0);
        due("reason 5: no more", x.glue(0, 1), 11);
        due("reason 5: refused", x.count(9), 4);
    }

    /** "for the first of these reasons that is so: 5, ... 4": apart, and far out by any account. */
    private static void glueReasonFiveAheadOfFour() {
        LostZeros x = Ready.withTapes(2);
        x.read(0, 0, -999);
        x.read(0, 1, 999);
        x.read(1, 2, 999);
        x.read(1, 3, -999);
        due("reasons 5 and 4", x.glue(0, 1), 5);
        x.read(1, 0, 998);
        due("reason 4 alone", x.glue(0, 1), 4);
        due("reason 4 alone, the other way round", x.glue(1, 0), 4);
        dueWritten("reason 4: nothing moved", x, "0a=-999,0b=999;1a=998,1c=999,1d=-999;");
    }

    /** "4: a reading would be ... above 999" */
    private static void glueInsideAndOutsideAbove() {
        LostZeros x = Ready.withTapes(2);
        x.read(0, 0, 900);
        x.read(1, 0, 0);
        x.read(1, 1, -1);
        x.read(1, 2, 100);
        due("glue: 1000", x.glue(0, 1), 4);
        due("glue: no reading came", x.tapeOf(0, 0), 1);
        x.lose(1, 2);
        x.read(1, 2, 99);
        due("glue: 999", x.glue(0, 1), 12);
        dueWritten("glue: up to 999", x, "0a=900,0b=899,0c=999;");
    }

    /** "4: a reading would be below -999" */
    private static void glueInsideAndOutsideBelow() {
        LostZeros x = Ready.withTapes(2);
        x.read(0, 0, -900);
        x.read(1, 0, 0);
        x.read(1, 1, 1);
        x.read(1, 2, -100);
        due("glue: -1000", x.glue(0, 1), 4);
        due("glue: no tape went", x.count(0), 2);
        x.lose(1, 2);
        x.read(1, 2, -99);
        due("glue: -999", x.glue(0, 1), 12);
        dueWritten("glue: down to -999", x, "0a=-900,0b=-899,0c=-999;");
    }

    /** "but where it has a reading already": these are not got, and do not change. */
    private static void glueKeepsWhatIsThere() {
        LostZeros x = Ready.withTapes(2);
        x.read(0, 0, 10);
        x.read(0, 1, 20);
        x.read(1, 0, 0);
        x.read(1, 1, 10);
        due("glue: none is got", x.glue(0, 1), 10);
        dueWritten("glue: as it was", x, "0a=10,0b=20;");
        due("glue: two readings less", x.count(1), 2);
        due("glue: glued", x.count(11), 1);
    }

    /** "as it would read there": each of three tapes may be the one, and the other one. */
    private static void glueReadsAsItWould() {
        String[] wants = {
            "0a=10,0b=20,0c=30;1a=0,1d=7;", "0a=10,0b=20,0d=17;1b=-500,1c=-490;",
            "0a=0,0b=10,0d=7;1b=-500,1c=-490;", "0a=10,0b=20;1a=0,1b=10,1c=20,1d=7;",
            "0a=0,0d=7;1a=-510,1b=-500,1c=-490;",
            "0a=10,0b=20;1a=-510,1b=-500,1c=-490,1d=-503;"
        };
        int[][] pairs = {{0, 2}, {0, 1}, {1, 0}, {1, 2}, {2, 0}, {2, 1}};
        for (int pair = 0; pair < pairs.length; pair++) {
            LostZeros x = Ready.withTapes(3);
            x.read(0, 0, 10);
            x.read(0, 1, 20);
            x.read(1, 0, 0);
            x.read(1, 3, 7);
            x.read(2, 1, -500);
            x.read(2, 2, -490);
            x.glue(pairs[pair][0], pairs[pair][1]);
            dueWritten("glue: the pair " + pair, x, wants[pair]);
        }
    }

    /** The most that can be got: the other one has a reading at each point. */
    private static void glueOfWholeTapes() {
        LostZeros x = Ready.withTapes(2);
        for (int point = 0; point < 12; point++) {
            x.read(1, point, 10 * point);
        }
        x.read(0, 11, 0);
        due("glue: eleven are got", x.glue(0, 1), 21);
        due("glue: the farthest", x.reading(0, 0), 99890);
        due("glue: twelve", x.count(1), 12);
    }

    /** "what is refused for a reason is one, too (it is counted)": nothing else is changed by it. */
    private static void refusedIsCountedAlone() {
        refusedChanges("read, 1", 1, x -> x.read(0, 0, -999));
        refusedChanges("read, 2", 2, x -> x.read(1, 1, 1));
        refusedChanges("lose", 3, x -> x.lose(2, 0));
        refusedChanges("shift, up", 4, x -> x.shift(0, 1));
        refusedChanges("shift, down", 4, x -> x.shift(0, -1));
        refusedChanges("cut", 4, x -> x.cut(0, -1));
        refusedChanges("glue, 4", 4, x -> x.glue(1, 0));
        refusedChanges("glue, 5", 5, x -> x.glue(0, 2));
    }

    private interface Deed {
        int on(LostZeros x);
    }

    private static void refusedChanges(String name, int reason, Deed deed) {
        Consumer<LostZeros> table = x -> {
            Ready.bring(x, 3);
            x.read(0, 0, -999);
            x.read(0, 1, 999);
            x.read(1, 0, 0);
            x.read(2, 2, 5);
            x.glue(0, 2);
            x.undo();
        };
        LostZeros x = Ready.after(table);
        String before = Views.state(x);
        due(name + ": reason", deed.on(x), reason);
        due(name + ": counted", x.count(9), 1);
        due(name + ": a change", x.count(13), 4);
        CHECK.dueText(name + ": all but the count", Views.state(x), before.replace(" 4 0 0 0", " 4 1 0 0"));
        due(name + ": undone", x.undo(), 3);
        CHECK.dueText(name + ": after undo", Views.state(x), before);
    }
}
