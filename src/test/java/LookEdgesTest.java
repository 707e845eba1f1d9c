import java.util.function.Consumer;

/**
 * The edges of looks (promises 15 to 26): each method stands for the sentence of the document
 * above it.
 */
public final class LookEdgesTest {
    private static final Check CHECK = new Check("LookEdgesTest");
    private static final int MIN_TOLD = 99001;
    private static final int MAX_TOLD = 100999;

    public static void main(String[] args) {
        readingOrNone();
        differenceOfAPointAndItself();
        differenceIsSecondLessFirst();
        differenceApart();
        differenceTheFarthest();
        differenceOverARing();
        differencesAreTheSameInBothWays();
        followsWithOrWithoutAReading();
        followsOutOfRange();
        zerosOfATapeAndItself();
        zerosSecondLessFirst();
        zerosAfterShift();
        whyNotIsNeither();
        whyNotLooksAtNoLimit();
        holdingOfNone();
        holdingOfOne();
        holdingOfATree();
        holdingOfRings();
        holdingOfRingsWithEnds();
        holdingOfAll();
        pointAlone();
        pointWithAllTapes();
        pointsInTheirOrder();
        pointsAtTheSamePlace();
        pointFromTheFirst();
        tapeAlone();
        tapeLeastAndGreatest();
        tapeOfSeveralTheLowest();
        tapeFarthestApart();
        tapesTogether();
        countOfNothing();
        countOfAll();
        countOfClusters();
        countOfMissing();
        countOfGreatestDifference();
        countOfBareOnes();
        countOfReadingsTaken();
        countOfCutsAndGlued();
        knownOfNone();
        knownOfAll();
        knownOfSome();
        ifReadTogetherAlready();
        ifReadWithoutReadings();
        ifReadOfSixAndSix();
        ifReadIsWhatComes();
        bestWithoutTapes();
        bestTellsNothing();
        bestOfSeveralTheLeast();
        bestAtTheLastPlace();
        looksWithAllReadings();
        looksChangeNothing();
        CHECK.end();
    }

    private static void due(String what, long got, long want) {
        CHECK.due(what, got, want);
    }

    private static void dueBoth(String what, LostZeros x, int from, int to, int want) {
        due(what + ", way 0", x.difference(from, to, 0), want);
        due(what + ", way 1", x.difference(from, to, 1), want);
    }

    private static void dueHolding(String what, LostZeros x, int want) {
        due(what + ", way 0", x.holding(0), want);
        due(what + ", way 1", x.holding(1), want);
    }

    /** "A tape reads a number at a point, or none": "NOT_FOUND if it has none there". */
    private static void readingOrNone() {
        LostZeros x = Ready.withTapes(2);
        due("reading: none", x.reading(0, 0), -4);
        x.read(0, 0, -999);
        x.read(0, 1, 999);
        x.read(1, 0, 0);
        due("reading: -999", x.reading(0, 0), MIN_TOLD);
        due("reading: 999", x.reading(0, 1), MAX_TOLD);
        due("reading: 0", x.reading(1, 0), 100000);
        due("reading: it only follows", x.reading(1, 1), -4);
        x.lose(0, 0);
        due("reading: lost", x.reading(0, 0), -4);
    }

    /** "A point without a reading hangs together with itself alone": 0 from itself. */
    private static void differenceOfAPointAndItself() {
        LostZeros x = new LostZeros();
        for (int point = 0; point < 12; point++) {
            dueBoth("difference: itself, without tapes", x, point, point, 100000);
        }
        x.tape();
        x.read(0, 4, 77);
        dueBoth("difference: itself, with a reading", x, 4, 4, 100000);
    }

    /** "the place of the second less that of the first one" */
    private static void differenceIsSecondLessFirst() {
        LostZeros x = Ready.withTapes(1);
        x.read(0, 0, 5);
        x.read(0, 1, 6);
        x.read(0, 2, 5);
        dueBoth("difference: 1 behind", x, 0, 1, 100001);
        dueBoth("difference: 1 ahead", x, 1, 0, 99999);
        dueBoth("difference: at the same place", x, 0, 2, 100000);
    }

    /** "NOT_FOUND if they do not hang together": with no reading, one each, and on a tape of both. */
    private static void differenceApart() {
        LostZeros x = Ready.withTapes(2);
        dueBoth("difference: no reading", x, 0, 1, -4);
        x.read(0, 0, 5);
        dueBoth("difference: one has none", x, 0, 1, -4);
        dueBoth("difference: one has none, back", x, 1, 0, -4);
        x.read(1, 1, 5);
        dueBoth("difference: on two tapes", x, 0, 1, -4);
        x.read(1, 0, 5);
        dueBoth("difference: joined", x, 0, 1, 100000);
        x.lose(1, 1);
        dueBoth("difference: apart again", x, 0, 1, -4);
    }

    private static void bringChain(LostZeros x) {
        Ready.bring(x, 8);
        for (int tape = 0; tape < 8; tape++) {
            x.read(tape, tape, -999);
            x.read(tape, tape + 1, 999);
        }
    }

    /** Eight tapes in a chain, each 1998 long: the farthest that can be told. */
    private static void differenceTheFarthest() {
        LostZeros x = Ready.after(LookEdgesTest::bringChain);
        dueBoth("difference: the farthest", x, 0, 8, 115984);
        dueBoth("difference: the farthest, back", x, 8, 0, 84016);
        dueBoth("difference: behind the chain", x, 0, 9, -4);
        due("zeros: the farthest", x.zeros(0, 7), 113986);
        due("follows: the farthest", x.follows(0, 8), 114985);
        due("follows: the farthest, back", x.follows(7, 0), 85015);
        due("point: the farthest", x.point(8, 3), 15984);
        due("point: the last of nine", x.point(8, 2), 8);
        due("count: the farthest", x.count(5), 15984);
        dueHolding("holding: a chain", x, 16);
    }

    /** "it is the same by all ways, as readings never contradict one another" */
    private static void differenceOverARing() {
        LostZeros x = Ready.withTapes(3);
        x.read(0, 0, 0);
        x.read(0, 1, 10);
        x.read(1, 1, 0);
        x.read(1, 2, 10);
        x.read(2, 2, 0);
        dueBoth("ring: open", x, 2, 0, 99980);
        due("ring: contradicts", x.read(2, 0, -19), 2);
        due("ring: closed as it follows", x.read(2, 0, -20), 16);
        dueBoth("ring: closed", x, 2, 0, 99980);
        dueBoth("ring: closed, of its other points", x, 1, 2, 100010);
        x.lose(0, 1);
        dueBoth("ring: by the other way", x, 2, 0, 99980);
    }

    /** "(the same for both)": of all points, also without readings. */
    private static void differencesAreTheSameInBothWays() {
        for (int tapes = 0; tapes < 8; tapes++) {
            LostZeros x = Ready.after(Ready::bringAll);
            for (int gone = 0; gone < tapes; gone++) {
                x.drop(gone % 2);
            }
            for (int from = 0; from < 12; from++) {
                for (int to = 0; to < 12; to++) {
                    int told = x.difference(from, to, 0);
                    due("ways: " + from + " " + to, x.difference(from, to, 1), told);
                    due("ways: told or not", told == -4 || told == 100000 + 10 * (to - from) ? 1 : 0, 1);
                }
            }
        }
    }

    /** "whether it has a reading there or not"; "NOT_FOUND if they do not hang together" */
    private static void followsWithOrWithoutAReading() {
        LostZeros x = Ready.withTapes(2);
        due("follows: nothing", x.follows(0, 0), -4);
        x.read(0, 0, -999);
        x.read(0, 1, 999);
        due("follows: a reading, -999", x.follows(0, 0), MIN_TOLD);
        due("follows: a reading, 999", x.follows(0, 1), MAX_TOLD);
        due("follows: a point without", x.follows(0, 2), -4);
        due("follows: a tape without", x.follows(1, 0), -4);
        x.read(1, 0, 0);
        due("follows: without a reading", x.follows(1, 1), 101998);
        x.lose(0, 0);
        due("follows: apart", x.follows(1, 1), -4);
        due("follows: the other one apart", x.follows(0, 0), -4);
    }

    /** "the number that follows", also if no tape could read it. */
    private static void followsOutOfRange() {
        LostZeros x = Ready.withTapes(2);
        x.read(0, 0, 0);
        x.read(0, 1, 1);
        x.read(0, 2, -1);
        x.read(1, 0, 999);
        due("follows: 1000", x.follows(1, 1), 101000);
        due("follows: 998", x.follows(1, 2), 100998);
        x.shift(1, -999);
        x.shift(1, -999);
        due("follows: -1000", x.follows(1, 2), 99000);
        due("follows: -998", x.follows(1, 1), 99002);
    }

    /** "a tape likewise": it hangs together with itself alone. */
    private static void zerosOfATapeAndItself() {
        LostZeros x = Ready.withTapes(8);
        for (int tape = 0; tape < 8; tape++) {
            due("zeros: itself", x.zeros(tape, tape), 100000);
            due("zeros: another one", x.zeros(tape, 7 - tape), -4);
        }
    }

    /** "the place of the zero of the second less that of the first one" */
    private static void zerosSecondLessFirst() {
        LostZeros x = Ready.withTapes(3);
        x.read(0, 0, 10);
        x.read(1, 0, 9);
        x.read(2, 1, 10);
        due("zeros: 1 behind", x.zeros(0, 1), 100001);
        due("zeros: 1 ahead", x.zeros(1, 0), 99999);
        due("zeros: apart", x.zeros(0, 2), -4);
        due("zeros: apart, back", x.zeros(2, 0), -4);
        x.read(2, 0, 10);
        due("zeros: at the same place", x.zeros(0, 2), 100000);
    }

    /** "its zero is moved; all its readings become greater": so the zero goes back. */
    private static void zerosAfterShift() {
        LostZeros x = Ready.withTapes(2);
        x.read(0, 0, 0);
        x.read(1, 0, 0);
        x.shift(1, 999);
        due("zeros: shifted by 999", x.zeros(0, 1), 99001);
        due("zeros: of the other one", x.zeros(1, 0), 100999);
        x.shift(0, -999);
        due("zeros: both shifted", x.zeros(0, 1), 98002);
    }

    /** "0 if it would not be" */
    private static void whyNotIsNeither() {
        LostZeros x = Ready.withTapes(1);
        due("whyNot: nothing read", x.whyNot(0, 0, 0), 0);
        due("whyNot: -999", x.whyNot(0, 0, -999), 0);
        due("whyNot: 999", x.whyNot(0, 0, 999), 0);
        x.read(0, 0, 0);
        due("whyNot: read already", x.whyNot(0, 0, 0), 1);
        due("whyNot: another point", x.whyNot(0, 1, 0), 0);
        x.lose(0, 0);
        due("whyNot: lost", x.whyNot(0, 0, 0), 0);
    }

    /** "Returns the reason, 1 or 2; 0 if it would not be; INVALID_ARGUMENT": no other answer with 40. */
    private static void whyNotLooksAtNoLimit() {
        LostZeros x = Ready.withForty();
        due("whyNot: 40, 1", x.whyNot(0, 0, 0), 1);
        due("whyNot: 40, 0", x.whyNot(4, 0, 0), 0);
        due("whyNot: 40, wrong", x.whyNot(4, 0, 1000), -1);
        x.lose(0, 0);
        x.read(4, 0, 0);
        due("whyNot: 40, 2", x.whyNot(4, 1, 4), 2);
        due("whyNot: 40, it follows", x.whyNot(4, 1, 3), 0);
    }

    /** "Returns how many": none without readings. */
    private static void holdingOfNone() {
        dueHolding("holding: no tapes", new LostZeros(), 0);
        dueHolding("holding: bare tapes", Ready.withTapes(8), 0);
    }

    /** "A reading holds, if its tape and its point would not hang together without it": the only one. */
    private static void holdingOfOne() {
        LostZeros x = Ready.withTapes(8);
        x.read(7, 11, 999);
        dueHolding("holding: the only one", x, 1);
        x.lose(7, 11);
        dueHolding("holding: none again", x, 0);
    }

    /** All readings of a tree hold: of one tape with all points, and of all tapes at one point. */
    private static void holdingOfATree() {
        LostZeros x = Ready.withTapes(8);
        for (int point = 0; point < 12; point++) {
            x.read(0, point, point);
        }
        dueHolding("holding: one tape", x, 12);
        for (int tape = 1; tape < 8; tape++) {
            x.read(tape, 0, tape);
        }
        dueHolding("holding: a tree of all points and tapes", x, 19);
    }

    /** None of a ring holds: the least ring, and one with all eight tapes. */
    private static void holdingOfRings() {
        LostZeros x = Ready.withTapes(2);
        x.read(0, 0, 0);
        x.read(0, 1, 1);
        x.read(1, 0, 0);
        dueHolding("holding: a ring that is open", x, 3);
        x.read(1, 1, 1);
        dueHolding("holding: the least ring", x, 0);
        x = Ready.after(LookEdgesTest::bringChain);
        for (int tape = 0; tape < 8; tape++) {
            x.lose(tape, tape + 1);
            x.read(tape, (tape + 1) % 8, -999);
        }
        due("holding: sixteen in the ring", x.count(1), 16);
        dueHolding("holding: the greatest ring", x, 0);
        x.lose(3, 4);
        dueHolding("holding: the greatest ring, open", x, 15);
    }

    /** "points and tapes with one reading only are taken away, again and again" */
    private static void holdingOfRingsWithEnds() {
        LostZeros x = Ready.withTapes(6);
        for (int tape = 0; tape < 2; tape++) {
            x.read(tape, 0, 0);
            x.read(tape, 1, 1);
            x.read(tape + 2, 2, 0);
            x.read(tape + 2, 3, 1);
        }
        dueHolding("holding: two rings", x, 0);
        x.read(4, 1, 0);
        x.read(4, 2, 0);
        dueHolding("holding: two rings joined", x, 2);
        x.read(5, 3, 0);
        x.read(5, 4, 0);
        x.read(5, 5, 0);
        dueHolding("holding: with an end of two", x, 5);
        due("holding: what follows", x.read(4, 4, 1), 24);
        dueHolding("holding: a ring more", x, 2);
    }

    /** 40 readings, of 8 tapes and of 4: none of them holds. */
    private static void holdingOfAll() {
        dueHolding("holding: 40 of 8 tapes", Ready.withAll(), 0);
        dueHolding("holding: 40 of 4 tapes", Ready.withForty(), 0);
    }

    /** "A point without a reading hangs together with itself alone", of all four numbers. */
    private static void pointAlone() {
        LostZeros x = new LostZeros();
        int[] want = {0, 1, 0, 0};
        for (int what = 0; what < 4; what++) {
            due("point: alone, " + what, x.point(0, what), want[what]);
            due("point: the last one alone, " + what, x.point(11, what), want[what]);
        }
        x.tape();
        x.read(0, 11, -999);
        due("point: with a reading, tapes", x.point(11, 0), 1);
        due("point: with a reading, alone", x.point(11, 1), 1);
    }

    /** "tapes that have a reading at it": all 8; "points that hang together with it": all 12. */
    private static void pointWithAllTapes() {
        LostZeros x = Ready.withTapes(8);
        for (int tape = 0; tape < 8; tape++) {
            x.read(tape, 3, tape);
        }
        due("point: all tapes", x.point(3, 0), 8);
        due("point: no other point", x.point(3, 1), 1);
        for (int point = 0; point < 12; point++) {
            due("point: all points", Ready.withAll().point(point, 1), 12);
            due("point: its place", Ready.withAll().point(point, 2), point);
            due("point: how far", Ready.withAll().point(point, 3), 10 * point);
        }
    }

    /** "its place, from 0, among these in their order along the line" */
    private static void pointsInTheirOrder() {
        LostZeros x = Ready.withTapes(1);
        for (int point = 0; point < 12; point++) {
            x.read(0, point, 999 - 90 * point);
        }
        for (int point = 0; point < 12; point++) {
            due("point: in the other order", x.point(point, 2), 11 - point);
            due("point: far from the last one", x.point(point, 3), 990 - 90 * point);
        }
        x.lose(0, 11);
        due("point: the last one is alone", x.point(11, 2), 0);
        due("point: another one is the first", x.point(10, 2), 0);
        due("point: it is not far", x.point(10, 3), 0);
    }

    /** "of points at the same place the lowest first": all at one. */
    private static void pointsAtTheSamePlace() {
        LostZeros x = Ready.withTapes(1);
        for (int point = 11; point >= 0; point--) {
            x.read(0, point, -5);
        }
        for (int point = 0; point < 12; point++) {
            due("point: at the same place", x.point(point, 2), point);
            due("point: not far from the first", x.point(point, 3), 0);
        }
        x.lose(0, 4);
        x.read(0, 4, -6);
        due("point: 1 ahead", x.point(4, 2), 0);
        due("point: behind it", x.point(0, 2), 1);
        due("point: ahead of a lower one", x.point(3, 2), 4);
        due("point: the next lowest", x.point(5, 2), 5);
        due("point: 1 far", x.point(11, 3), 1);
    }

    /** "how far it is from the first one of these", not from zero. */
    private static void pointFromTheFirst() {
        LostZeros x = Ready.withTapes(2);
        x.read(0, 6, 500);
        x.read(0, 7, 501);
        due("point: the first", x.point(6, 3), 0);
        due("point: 1 behind", x.point(7, 3), 1);
        x.read(1, 7, 999);
        x.read(1, 8, -999);
        due("point: over two tapes", x.point(7, 3), 1998);
        due("point: the first of two tapes", x.point(8, 3), 0);
        due("point: between", x.point(6, 3), 1997);
    }

    /** "NOT_FOUND for both without readings"; "0 without readings"; "itself, too" */
    private static void tapeAlone() {
        LostZeros x = Ready.withTapes(8);
        int[] want = {0, -4, -4, 0, 1};
        for (int what = 0; what < 5; what++) {
            due("tapeOf: bare, " + what, x.tapeOf(0, what), want[what]);
            due("tapeOf: the last one bare, " + what, x.tapeOf(7, what), want[what]);
        }
        x.read(7, 0, 999);
        int[] with = {1, 0, 0, 0, 1};
        for (int what = 0; what < 5; what++) {
            due("tapeOf: one reading, " + what, x.tapeOf(7, what), with[what]);
        }
        x.lose(7, 0);
        due("tapeOf: bare again", x.tapeOf(7, 1), -4);
    }

    /** "the point with its least reading, 2: with its greatest one": at both ends of points. */
    private static void tapeLeastAndGreatest() {
        LostZeros x = Ready.withTapes(2);
        x.read(0, 0, 999);
        x.read(0, 5, 0);
        x.read(0, 11, -999);
        due("tapeOf: least at 11", x.tapeOf(0, 1), 11);
        due("tapeOf: greatest at 0", x.tapeOf(0, 2), 0);
        x.read(1, 1, -999);
        x.read(1, 6, 0);
        x.read(1, 10, 999);
        due("tapeOf: least at 1", x.tapeOf(1, 1), 1);
        due("tapeOf: greatest at 10", x.tapeOf(1, 2), 10);
    }

    /** "of several the lowest" */
    private static void tapeOfSeveralTheLowest() {
        LostZeros x = Ready.withTapes(1);
        for (int point = 11; point >= 0; point--) {
            x.read(0, point, 0);
        }
        due("tapeOf: all the same, least", x.tapeOf(0, 1), 0);
        due("tapeOf: all the same, greatest", x.tapeOf(0, 2), 0);
        x.lose(0, 0);
        due("tapeOf: without the lowest, least", x.tapeOf(0, 1), 1);
        due("tapeOf: without the lowest, greatest", x.tapeOf(0, 2), 1);
        x.read(0, 0, 1);
        due("tapeOf: least behind a greater one", x.tapeOf(0, 1), 1);
        x.lose(0, 0);
        x.read(0, 0, -1);
        due("tapeOf: greatest behind a lesser one", x.tapeOf(0, 2), 1);
    }

    /** "how far its greatest reading is above the least one" */
    private static void tapeFarthestApart() {
        LostZeros x = Ready.withTapes(1);
        x.read(0, 3, 999);
        x.read(0, 2, 999);
        due("tapeOf: the same", x.tapeOf(0, 3), 0);
        x.read(0, 1, 998);
        due("tapeOf: 1", x.tapeOf(0, 3), 1);
        x.read(0, 0, -999);
        due("tapeOf: the farthest", x.tapeOf(0, 3), 1998);
    }

    /** "tapes that hang together with it, itself, too": all 8. */
    private static void tapesTogether() {
        LostZeros x = Ready.withTapes(8);
        for (int tape = 0; tape < 8; tape++) {
            x.read(tape, 0, tape);
            due("tapeOf: together", x.tapeOf(0, 4), tape + 1);
            due("tapeOf: together with the last one", x.tapeOf(tape, 4), tape + 1);
        }
        x.lose(0, 0);
        due("tapeOf: alone", x.tapeOf(0, 4), 1);
        due("tapeOf: the others", x.tapeOf(7, 4), 7);
        x.drop(3);
        due("tapeOf: the others, one gone", x.tapeOf(6, 4), 6);
    }

    /** Without tapes, and with 8 of them without readings. */
    private static void countOfNothing() {
        int[] none = {0, 0, 12, 0, 0, 0, 12, 0, 0, 0, 0, 0, 0, 0};
        int[] bare = {8, 0, 12, 0, 0, 0, 12, 8, 0, 0, 0, 0, 0, 4};
        for (int what = 0; what <= 13; what++) {
            due("count: without tapes, " + what, new LostZeros().count(what), none[what]);
            due("count: bare tapes, " + what, Ready.withTapes(8).count(what), bare[what]);
        }
    }

    /** With 8 tapes, 40 readings, and a full pad. */
    private static void countOfAll() {
        int[] want = {8, 40, 1, 1, 0, 110, 0, 0, 40, 0, 0, 0, 60, 4};
        for (int what = 0; what <= 13; what++) {
            LostZeros x = Ready.withAll();
            Ready.put(x, Ready.TWELVE + "!");
            due("count: all, " + what, x.count(what), want[what]);
        }
    }

    /** "a point alone is one, too"; "clusters that have a point with a reading" */
    private static void countOfClusters() {
        LostZeros x = Ready.withTapes(2);
        x.read(0, 11, 0);
        due("clusters: one point", x.count(2), 12);
        due("clusters: one point, read", x.count(3), 1);
        x.read(0, 0, 0);
        due("clusters: two points of a tape", x.count(2), 11);
        due("clusters: two points of a tape, read", x.count(3), 1);
        x.read(1, 5, 0);
        due("clusters: another one", x.count(2), 11);
        due("clusters: another one, read", x.count(3), 2);
        x.read(1, 11, 0);
        due("clusters: joined", x.count(2), 10);
        due("clusters: joined, read", x.count(3), 1);
        for (int point = 0; point < 12; point++) {
            x.read(0, point, x.follows(0, point) > 0 ? x.follows(0, point) - 100000 : 0);
        }
        due("clusters: all are one", x.count(2), 1);
        x = Ready.withTapes(8);
        for (int tape = 0; tape < 8; tape++) {
            x.read(tape, tape, 0);
        }
        due("clusters: eight of one", x.count(2), 12);
        due("clusters: eight of one, read", x.count(3), 8);
    }

    /** "one less than the clusters that have a point with a reading; 0 without readings" */
    private static void countOfMissing() {
        LostZeros x = Ready.withTapes(8);
        due("missing: without readings", x.count(4), 0);
        for (int tape = 0; tape < 8; tape++) {
            x.read(tape, 11 - tape, 0);
            due("missing: of " + (tape + 1), x.count(4), tape);
        }
        x.read(0, 0, 0);
        due("missing: a point more of a tape", x.count(4), 7);
        x.read(1, 11, 0);
        due("missing: two are joined", x.count(4), 6);
        for (int tape = 0; tape < 8; tape++) {
            x.lose(tape, 11 - tape);
        }
        due("missing: two points", x.count(4), 1);
        x.lose(0, 0);
        due("missing: one point", x.count(4), 0);
        x.lose(1, 11);
        due("missing: without readings again", x.count(4), 0);
        due("missing: none read", x.count(3), 0);
    }

    /** "the greatest difference of two points that hang together": 0 if none do. */
    private static void countOfGreatestDifference() {
        LostZeros x = Ready.withTapes(2);
        x.read(0, 0, 999);
        due("greatest: one point", x.count(5), 0);
        x.read(1, 1, -999);
        due("greatest: two apart", x.count(5), 0);
        x.read(0, 2, 999);
        due("greatest: at the same place", x.count(5), 0);
        x.read(1, 3, -998);
        due("greatest: 1", x.count(5), 1);
        x.read(1, 0, 999);
        due("greatest: 1998", x.count(5), 1998);
        x.lose(0, 2);
        due("greatest: 1998, to the point 0 alone", x.count(5), 1998);
        x.lose(1, 0);
        due("greatest: 1 again", x.count(5), 1);
    }

    /** "points without a reading"; "tapes without a reading" */
    private static void countOfBareOnes() {
        LostZeros x = Ready.withTapes(3);
        x.read(0, 0, 0);
        x.read(0, 11, 0);
        x.read(1, 0, 0);
        due("bare: points", x.count(6), 10);
        due("bare: tapes", x.count(7), 1);
        x.lose(0, 0);
        due("bare: a point with one still", x.count(6), 10);
        x.lose(1, 0);
        due("bare: a point more", x.count(6), 11);
        due("bare: a tape more", x.count(7), 2);
        x.drop(2);
        due("bare: a tape less", x.count(7), 1);
    }

    /** "so far 8: readings that were taken": by read and by take, and not those that are got. */
    private static void countOfReadingsTaken() {
        LostZeros x = Ready.withTapes(2);
        x.read(0, 0, 0);
        Ready.put(x, "0b=5,1a=0,1a=0");
        x.take();
        due("taken: by both", x.count(8), 3);
        due("taken: refused", x.count(9), 1);
        due("taken: got by glue", x.glue(1, 0), 11);
        due("taken: not by glue", x.count(8), 3);
        due("taken: moved by cut", x.cut(0, -999), 4);
        due("taken: moved by cut, then", x.cut(0, 0), 12);
        due("taken: not by cut", x.count(8), 3);
        x.drop(1);
        due("taken: lost ones were taken", x.count(8), 3);
        due("taken: with the reason 4", x.count(9), 2);
    }

    /** "10: cuts; 11: tapes that were glued": not those that were refused, or returned an error. */
    private static void countOfCutsAndGlued() {
        LostZeros x = Ready.withTapes(2);
        x.read(0, 0, 999);
        due("cuts: refused", x.cut(0, -1), 4);
        due("cuts: an error", x.cut(2, 0), -1);
        due("glued: refused", x.glue(0, 1), 5);
        due("glued: an error", x.glue(0, 0), -1);
        due("cuts: none", x.count(10), 0);
        due("glued: none", x.count(11), 0);
        x.read(1, 0, 999);
        due("cuts: one", x.cut(0, 999), 11);
        due("glued: one", x.glue(1, 2), 10);
        due("cuts: counted", x.count(10), 1);
        due("glued: counted", x.count(11), 1);
        due("refused: counted", x.count(9), 2);
    }

    /** "the pairs of unlike points that hang together": none. */
    private static void knownOfNone() {
        CHECK.dueDouble("known: without tapes", new LostZeros().known(), 0.0);
        LostZeros x = Ready.withTapes(8);
        for (int tape = 0; tape < 8; tape++) {
            x.read(tape, tape, tape);
        }
        CHECK.dueDouble("known: no pair", x.known(), 0.0);
    }

    /** "divided by all 66 pairs": all of them. */
    private static void knownOfAll() {
        CHECK.dueDouble("known: all", Ready.withAll().known(), 1.0);
    }

    /** "as a double, divided by all 66 pairs": n points of a tape have n (n - 1) / 2 of them. */
    private static void knownOfSome() {
        LostZeros x = Ready.withTapes(2);
        for (int points = 1; points <= 12; points++) {
            x.read(0, 12 - points, 0);
            CHECK.dueDouble("known: " + points, x.known(), points * (points - 1) / 2 / 66.0);
        }
        x = Ready.withTapes(2);
        x.read(0, 0, 0);
        x.read(0, 1, 0);
        x.read(1, 2, 0);
        x.read(1, 3, 0);
        CHECK.dueDouble("known: two pairs apart", x.known(), 2 / 66.0);
        x.read(1, 0, 0);
        CHECK.dueDouble("known: joined", x.known(), 6 / 66.0);
    }

    /** "0 if the tape and the point hang together", with a reading there or without one. */
    private static void ifReadTogetherAlready() {
        LostZeros x = Ready.withTapes(2);
        x.read(0, 0, 0);
        x.read(0, 1, 0);
        x.read(1, 1, 0);
        due("ifRead: a reading there", x.ifRead(0, 0), 0);
        due("ifRead: together without one", x.ifRead(1, 0), 0);
        for (int point = 0; point < 12; point++) {
            due("ifRead: all together", Ready.withAll().ifRead(7, point), 0);
        }
    }

    /** "how many more pairs of points": a tape without readings joins no point with the first one. */
    private static void ifReadWithoutReadings() {
        LostZeros x = Ready.withTapes(8);
        due("ifRead: nothing read", x.ifRead(0, 0), 0);
        x.read(0, 0, 0);
        due("ifRead: a bare tape", x.ifRead(7, 0), 0);
        due("ifRead: a bare point", x.ifRead(0, 11), 1);
        due("ifRead: a bare tape and a bare point", x.ifRead(7, 11), 0);
    }

    /** The most that one reading can tell: six points and six others. */
    private static void ifReadOfSixAndSix() {
        LostZeros x = Ready.withTapes(2);
        for (int point = 0; point < 6; point++) {
            x.read(0, point, 0);
            x.read(1, 11 - point, 0);
        }
        due("ifRead: six and six", x.ifRead(0, 11), 36);
        due("ifRead: six and six, the other way round", x.ifRead(1, 0), 36);
        due("ifRead: best", x.bestReading(), 6);
        due("ifRead: read", x.read(0, 11, 999), 23);
        CHECK.dueDouble("ifRead: all is known", x.known(), 1.0);
    }

    /** Of each reading that is not refused, ifRead told how many more pairs there would be. */
    private static void ifReadIsWhatComes() {
        int[][] readings = {{0, 0}, {1, 0}, {2, 5}, {2, 6}, {0, 7}, {1, 8}, {3, 8}, {3, 5}, {2, 7}, {3, 11}};
        LostZeros x = Ready.withTapes(4);
        for (int[] reading : readings) {
            int told = x.ifRead(reading[0], reading[1]);
            int follows = x.follows(reading[0], reading[1]);
            double before = x.known();
            x.read(reading[0], reading[1], follows > 0 ? follows - 100000 : 7);
            long more = Math.round((x.known() - before) * 66);
            due("ifRead: what came of " + reading[0] + " " + reading[1], told, more);
        }
        due("ifRead: all were taken", x.count(8), 10);
    }

    /** "NOT_FOUND without tapes" */
    private static void bestWithoutTapes() {
        LostZeros x = new LostZeros();
        due("best: without tapes", x.bestReading(), -4);
        x.tape();
        due("best: with one", x.bestReading(), 0);
        x.drop(0);
        due("best: without tapes again", x.bestReading(), -4);
    }

    /** "of several the least number": all tell nothing. */
    private static void bestTellsNothing() {
        due("best: nothing read", Ready.withTapes(8).bestReading(), 0);
        due("best: all known", Ready.withAll().bestReading(), 0);
    }

    /** "of several the least number": of one tape, and of two. */
    private static void bestOfSeveralTheLeast() {
        LostZeros x = Ready.withTapes(3);
        x.read(0, 5, 0);
        due("best: the least number of all", x.bestReading(), 0);
        x.lose(0, 5);
        x.read(1, 5, 0);
        due("best: of one tape the point 0", x.bestReading(), 12);
        x.lose(1, 5);
        x.read(1, 0, 0);
        due("best: of one tape the lowest point", x.bestReading(), 13);
        x.read(2, 1, 0);
        due("best: of two tapes the lower one", x.bestReading(), 13);
        x.read(2, 2, 0);
        due("best: of two tapes that are joined, the least", x.bestReading(), 13);
        x.read(0, 3, 0);
        x.read(0, 4, 0);
        due("best: two and two", x.bestReading(), 1);
    }

    /** "12 times the tape, and the point": 7 times 12 and 11 is the greatest answer. */
    private static void bestAtTheLastPlace() {
        LostZeros x = Ready.withTapes(8);
        for (int point = 0; point < 11; point++) {
            x.read(7, point, 0);
        }
        due("best: the last place", x.bestReading(), 95);
        due("best: what it tells", x.ifRead(7, 11), 11);
        x.drop(0);
        due("best: one has gone", x.bestReading(), 83);
    }

    /** With 8 tapes and 40 readings: the zero of each tape stands at its number, the points 10 apart. */
    private static void looksWithAllReadings() {
        for (int tape = 0; tape < 8; tape++) {
            LostZeros x = Ready.withAll();
            for (int point = 0; point < 12; point++) {
                int number = 10 * point - tape;
                boolean there = x.reading(tape, point) != -4;
                due("all: reading", x.reading(tape, point), there ? 100000 + number : -4);
                due("all: follows", x.follows(tape, point), 100000 + number);
                due("all: whyNot", x.whyNot(tape, point, number), there ? 1 : 0);
                due("all: whyNot, another", x.whyNot(tape, point, number + 1), there ? 1 : 2);
                due("all: ifRead", x.ifRead(tape, point), 0);
            }
            for (int other = 0; other < 8; other++) {
                due("all: zeros", x.zeros(tape, other), 100000 + other - tape);
            }
            due("all: readings of a tape", x.tapeOf(tape, 0), 5);
            due("all: tapes together", x.tapeOf(tape, 4), 8);
        }
    }

    /** "looks; nothing is changed", "what would be; nothing is changed" */
    private static void looksChangeNothing() {
        Consumer<LostZeros> table = x -> {
            Ready.bring(x, 3);
            x.read(0, 0, -999);
            x.save();
            Ready.put(x, "0b=999,1b=0,1c=5,1c=6");
            x.take();
            x.read(2, 2, 9);
            x.lose(1, 1);
            Ready.put(x, "2a=1,9");
        };
        Consumer<LostZeros> looks = x -> {
            for (int number = -1; number <= 14; number++) {
                x.reading(0, number);
                x.follows(1, number);
                x.zeros(2, number);
                x.whyNot(2, number, 999);
                x.point(number, number);
                x.tapeOf(1, number);
                x.count(number);
                x.ifRead(0, number);
                x.sign(0, number);
                x.why(number);
                x.difference(0, number, 0);
                x.difference(0, number, 1);
                x.holding(number);
            }
            x.known();
            x.bestReading();
            x.fault();
        };
        CHECK.dueText("looks: what they change", Views.of(table.andThen(looks)), Views.of(table));
    }
}
