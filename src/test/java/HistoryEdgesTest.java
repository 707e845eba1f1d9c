import java.util.function.Consumer;

/**
 * The edges of changes, history and snapshot (promises 27 to 29): each method stands for the
 * sentence of the document above it.
 */
public final class HistoryEdgesTest {
    private static final Check CHECK = new Check("HistoryEdgesTest");

    private interface Deed {
        int on(LostZeros x);
    }

    public static void main(String[] args) {
        undoOfNone();
        historyOfOneToFour();
        historyOfMoreThanFour();
        historyAfterUndoFillsAgain();
        changesAreNamed();
        refusedOnesAreChanges();
        othersAreNoChanges();
        changesWithoutADifference();
        undoBringsTheCountsBack();
        undoBringsTheTapesBack();
        undoLeavesThePad();
        undoLeavesTheSnapshot();
        undoIsNotUndone();
        statesAreWholeCopies();
        restoreOfNone();
        restoreWithoutTapes();
        saveInPlaceOfTheOther();
        saveLeavesThePast();
        restoreLeavesPadAndWhy();
        restoreBringsTheCountsBack();
        restoreIsAChange();
        restoreStays();
        saveAndRestoreTellReadings();
        errorsLeaveHistoryAndSnapshot();
        CHECK.end();
    }

    private static void due(String what, long got, long want) {
        CHECK.due(what, got, want);
    }

    /** "NOT_POSSIBLE if it has none": of a new object, after looks, and after all are undone. */
    private static void undoOfNone() {
        LostZeros x = new LostZeros();
        due("undo: new", x.undo(), -2);
        Ready.put(x, "0a=1");
        x.save();
        x.clear();
        due("undo: without a change", x.undo(), -2);
        x.tape();
        due("undo: one", x.undo(), 0);
        due("undo: none again", x.undo(), -2);
        due("undo: states", x.count(13), 0);
    }

    /** "A history of at most 4 states is kept": 1, 2, 3 and 4 of them. */
    private static void historyOfOneToFour() {
        for (int changes = 1; changes <= 4; changes++) {
            LostZeros x = Ready.withTapes(changes);
            due("history: states", x.count(13), changes);
            for (int left = changes - 1; left >= 0; left--) {
                due("history: undo", x.undo(), left);
                due("history: tapes", x.count(0), left);
            }
            due("history: no more", x.undo(), -2);
        }
    }

    /** "if there are 5 states then, the oldest one is dropped" */
    private static void historyOfMoreThanFour() {
        for (int changes = 5; changes <= 8; changes++) {
            LostZeros x = Ready.withTapes(changes);
            due("history: states of more", x.count(13), 4);
            for (int left = 3; left >= 0; left--) {
                due("history: undo of more", x.undo(), left);
                due("history: tapes of more", x.count(0), changes - 4 + left);
            }
            due("history: no more of more", x.undo(), -2);
            due("history: what is left of more", x.count(0), changes - 4);
        }
        LostZeros x = Ready.withTapes(1);
        for (int number = 0; number < 50; number++) {
            x.read(0, 0, number);
            x.lose(0, 0);
        }
        due("history: after a hundred", x.count(13), 4);
        due("history: the last", x.undo(), 3);
        due("history: its reading", x.reading(0, 0), 100049);
        x.undo();
        x.undo();
        due("history: the reading ahead of it", x.reading(0, 0), 100048);
        due("history: the oldest", x.undo(), 0);
        due("history: none is there", x.reading(0, 0), -4);
    }

    /** A change after an undo is recorded behind what is left. */
    private static void historyAfterUndoFillsAgain() {
        LostZeros x = Ready.withTapes(6);
        x.undo();
        x.undo();
        x.drop(0);
        due("again: three", x.count(13), 3);
        x.drop(0);
        due("again: four", x.count(13), 4);
        x.drop(0);
        due("again: still four", x.count(13), 4);
        int[] tapes = {2, 3, 4, 3};
        for (int undo = 0; undo < 4; undo++) {
            due("again: undo", x.undo(), 3 - undo);
            due("again: tapes", x.count(0), tapes[undo]);
        }
        due("again: no more", x.undo(), -2);
    }

    /** Two tapes that hang together, one without readings, a snapshot, and room for one state. */
    private static void threeTapes(LostZeros x) {
        Ready.bring(x, 3);
        x.read(0, 0, -10);
        x.read(0, 1, 999);
        x.read(1, 1, 0);
        x.save();
        x.cut(2, 0);
        x.undo();
    }

    private static void isChange(String name, int answer, Deed deed) {
        LostZeros x = Ready.after(HistoryEdgesTest::threeTapes);
        String before = Views.state(x);
        due("change: states ahead of " + name, x.count(13), 3);
        due("change: " + name, deed.on(x), answer);
        due("change: states behind " + name, x.count(13), 4);
        due("change: undo of " + name, x.undo(), 3);
        CHECK.dueText("change: undone " + name, Views.state(x), before);
    }

    private static int take(LostZeros x, String text) {
        Ready.put(x, text);
        return x.take();
    }

    /** "The changes are the calls of tape, drop, read, lose, shift, cut, glue, take and restore" */
    private static void changesAreNamed() {
        isChange("tape", 3, LostZeros::tape);
        isChange("drop", 2, x -> x.drop(0));
        isChange("drop, the last one", 0, x -> x.drop(2));
        isChange("read", 14, x -> x.read(2, 5, 5));
        isChange("lose", 12, x -> x.lose(0, 0));
        isChange("shift", 12, x -> x.shift(0, -7));
        isChange("cut", 11, x -> x.cut(0, 10));
        isChange("glue", 10, x -> x.glue(0, 1));
        isChange("take", 2, x -> take(x, "2a=1,2c=990"));
        isChange("restore", 3, LostZeros::restore);
    }

    /** "what is refused for a reason is one, too (it is counted)" */
    private static void refusedOnesAreChanges() {
        isChange("read, 1", 1, x -> x.read(0, 0, 10));
        isChange("read, 2", 2, x -> x.read(1, 0, 0));
        isChange("lose, 3", 3, x -> x.lose(1, 0));
        isChange("shift, 4", 4, x -> x.shift(0, 1));
        isChange("cut, 4", 4, x -> x.cut(0, -1));
        isChange("glue, 4", 4, x -> x.glue(1, 0));
        isChange("glue, 5", 5, x -> x.glue(0, 2));
        isChange("take, at a reason", 1, x -> take(x, "2a=1,0a=10"));
        isChange("take, at an error", 1, x -> take(x, "2a=1,3a=1"));
    }

    /** The changes are named: a call of another name is none, also if it returns no error. */
    private static void othersAreNoChanges() {
        LostZeros x = Ready.after(HistoryEdgesTest::threeTapes);
        due("no change: append", x.append('!'), 1);
        due("no change: clear", x.clear(), 1);
        due("no change: fault", x.fault(), 0);
        due("no change: save", x.save(), 3);
        due("no change: why", x.why(0), -4);
        due("no change: sign", x.sign(0, 0), '0');
        due("no change: reading", x.reading(0, 0), 99990);
        due("no change: difference", x.difference(0, 1, 0), 101009);
        due("no change: follows", x.follows(1, 0), 98991);
        due("no change: zeros", x.zeros(0, 1), 100999);
        due("no change: whyNot", x.whyNot(0, 0, 0), 1);
        due("no change: holding", x.holding(1), 3);
        due("no change: point", x.point(0, 1), 2);
        due("no change: tapeOf", x.tapeOf(0, 3), 1009);
        due("no change: count", x.count(5), 1009);
        CHECK.dueDouble("no change: known", x.known(), 1 / 66.0);
        due("no change: ifRead", x.ifRead(0, 5), 2);
        due("no change: bestReading", x.bestReading(), 2);
        due("no change: states", x.count(13), 3);
    }

    /** "(also if nothing is different then)" */
    private static void changesWithoutADifference() {
        LostZeros x = new LostZeros();
        x.save();
        due("no difference: restore", x.restore(), 0);
        due("no difference: restore again", x.restore(), 0);
        due("no difference: states", x.count(13), 2);
        x.tape();
        due("no difference: shift", x.shift(0, 5), 10);
        due("no difference: states behind it", x.count(13), 4);
        due("no difference: undo of it", x.undo(), 3);
        due("no difference: the tape stays", x.count(0), 1);
        due("no difference: undo of the tape", x.undo(), 2);
        due("no difference: the tape is gone", x.count(0), 0);
        Ready.put(x, "0a=5");
        due("no difference: take at an error", x.take(), 0);
        due("no difference: states behind take", x.count(13), 3);
    }

    /** "each change records everything": readings that were taken, refused deeds, cuts, glued ones. */
    private static void undoBringsTheCountsBack() {
        LostZeros x = Ready.after(HistoryEdgesTest::threeTapes);
        x.read(2, 0, 5);
        x.read(2, 0, 5);
        x.cut(0, 11);
        x.glue(2, 0);
        int[] all = {4, 1, 1, 1};
        int[][] wants = {{4, 1, 1, 0}, {4, 1, 0, 0}, {4, 0, 0, 0}, {3, 0, 0, 0}};
        for (int what = 0; what < 4; what++) {
            due("counts: ahead of undo, " + (8 + what), x.count(8 + what), all[what]);
        }
        for (int[] want : wants) {
            x.undo();
            for (int what = 0; what < 4; what++) {
                due("counts: after undo, " + (8 + what), x.count(8 + what), want[what]);
            }
        }
    }

    /** "everything ... is as it was before it": numbers of tapes, too. */
    private static void undoBringsTheTapesBack() {
        LostZeros x = Ready.withAll();
        String all = Views.state(x);
        due("tapes: drop of the first", x.drop(0), 5);
        due("tapes: undo of drop", x.undo(), 3);
        CHECK.dueText("tapes: as they were ahead of drop", Views.state(x), all);
        due("tapes: glue to the last", x.glue(7, 0), 11);
        due("tapes: undo of glue", x.undo(), 3);
        CHECK.dueText("tapes: as they were ahead of glue", Views.state(x), all);
        due("tapes: the ninth", x.tape(), -3);
        due("tapes: the reading too many", x.read(0, 11, 110), -3);
    }

    /** "everything but the pad": what was appended, cleared, or taken from it. */
    private static void undoLeavesThePad() {
        LostZeros x = Ready.withPad(1, "0a=1");
        due("pad: undo of the tape", x.undo(), 0);
        due("pad: as it is", x.count(12), 4);
        due("pad: without a fault", x.fault(), -4);
        x.tape();
        x.take();
        due("pad: undo of take", x.undo(), 1);
        due("pad: empty still", x.count(12), 0);
        due("pad: its fault", x.fault(), 0);
    }

    /** "everything but ... the snapshot" */
    private static void undoLeavesTheSnapshot() {
        LostZeros x = Ready.withTapes(1);
        x.read(0, 0, 5);
        due("snapshot: one reading", x.save(), 1);
        due("snapshot: undo of the reading", x.undo(), 1);
        due("snapshot: undo of the tape", x.undo(), 0);
        due("snapshot: restored", x.restore(), 1);
        due("snapshot: its tape", x.count(0), 1);
        due("snapshot: taken", x.count(8), 1);
        due("snapshot: undo of restore", x.undo(), 0);
        due("snapshot: no tape", x.count(0), 0);
        due("snapshot: still there", x.restore(), 1);
    }

    /** undo is no change: another one goes back farther, and none comes again. */
    private static void undoIsNotUndone() {
        LostZeros x = Ready.withTapes(2);
        due("undo: one", x.undo(), 1);
        due("undo: tapes", x.count(0), 1);
        due("undo: another one", x.undo(), 0);
        due("undo: no tapes", x.count(0), 0);
    }

    /** What changes after a state was kept does not change it. */
    private static void statesAreWholeCopies() {
        LostZeros x = Ready.withTapes(1);
        x.read(0, 0, 1);
        x.save();
        x.shift(0, 1);
        x.shift(0, 1);
        x.shift(0, 1);
        for (int number = 3; number >= 1; number--) {
            x.undo();
            due("copies: undo", x.reading(0, 0), 100000 + number);
        }
        x.shift(0, 500);
        x.restore();
        due("copies: restored", x.reading(0, 0), 100001);
        x.shift(0, 600);
        x.restore();
        due("copies: restored again", x.reading(0, 0), 100001);
        x.undo();
        due("copies: undone", x.reading(0, 0), 100601);
    }

    /** "NOT_POSSIBLE if there is none" */
    private static void restoreOfNone() {
        LostZeros x = Ready.withTapes(2);
        due("restore: none", x.restore(), -2);
        due("restore: no change", x.count(13), 2);
        due("restore: undo is no snapshot", x.undo(), 1);
        due("restore: none still", x.restore(), -2);
        x.save();
        due("restore: one", x.restore(), 0);
    }

    /** A snapshot of a table without tapes is a snapshot. */
    private static void restoreWithoutTapes() {
        LostZeros x = new LostZeros();
        due("restore: save of nothing", x.save(), 0);
        Ready.bringAll(x);
        due("restore: nothing", x.restore(), 0);
        due("restore: no tapes", x.count(0), 0);
        due("restore: nothing was taken", x.count(8), 0);
        due("restore: undone", x.undo(), 3);
        due("restore: all tapes", x.count(0), 8);
        due("restore: all readings", x.count(1), 40);
    }

    /** "in place of the one that was" */
    private static void saveInPlaceOfTheOther() {
        LostZeros x = Ready.withTapes(1);
        due("save: first", x.save(), 0);
        x.read(0, 0, 7);
        due("save: second", x.save(), 1);
        x.drop(0);
        due("save: the second one", x.restore(), 1);
        due("save: its reading", x.reading(0, 0), 100007);
        x.drop(0);
        due("save: third", x.save(), 0);
        x.undo();
        due("save: the third one", x.restore(), 0);
        due("save: no tapes", x.count(0), 0);
    }

    /** "a snapshot of everything but ... the history": it takes none, and brings none back. */
    private static void saveLeavesThePast() {
        LostZeros x = Ready.withTapes(1);
        x.save();
        x.tape();
        x.tape();
        due("past: restore", x.restore(), 0);
        due("past: four states", x.count(13), 4);
        int[] tapes = {3, 2, 1, 0};
        for (int undo = 0; undo < 4; undo++) {
            x.undo();
            due("past: tapes", x.count(0), tapes[undo]);
        }
        due("past: no states", x.count(13), 0);
        x.restore();
        due("past: one state", x.count(13), 1);
    }

    /** "everything but the pad, ... and why()" */
    private static void restoreLeavesPadAndWhy() {
        LostZeros x = Ready.withPad(1, "0a=1,0a=2");
        x.take();
        Ready.put(x, "0a");
        x.save();
        Ready.put(x, "=1");
        x.restore();
        due("restore: the pad is as it was", x.count(12), 4);
        due("restore: the pad's fault", x.fault(), -4);
        x.clear();
        Ready.put(x, "0b=1,1b=1");
        x.take();
        x.restore();
        due("restore: the pad stays empty", x.count(12), 0);
        due("restore: why is of the latest take", x.why(0), -1);
        due("restore: its place", x.why(2), 5);
    }

    /** "a snapshot of everything": readings that were taken, refused deeds, cuts, glued ones. */
    private static void restoreBringsTheCountsBack() {
        LostZeros x = Ready.after(HistoryEdgesTest::threeTapes);
        x.read(2, 0, 5);
        x.read(2, 0, 5);
        x.cut(0, 11);
        x.glue(2, 0);
        x.save();
        x.drop(0);
        x.read(0, 0, 1);
        x.glue(0, 0);
        x.glue(0, 1);
        x.cut(0, 0);
        x.restore();
        for (int what = 8; what <= 11; what++) {
            due("restore: counted, " + what, x.count(what), what == 8 ? 4 : 1);
        }
    }

    /** restore is one of the changes: recorded, and undone. */
    private static void restoreIsAChange() {
        LostZeros x = Ready.withTapes(2);
        x.save();
        x.drop(0);
        due("restore: a change", x.restore(), 0);
        due("restore: states", x.count(13), 4);
        due("restore: tapes", x.count(0), 2);
        due("restore: undone", x.undo(), 3);
        due("restore: tapes ahead of it", x.count(0), 1);
    }

    /** "Restores the snapshot, which stays." */
    private static void restoreStays() {
        LostZeros x = Ready.withTapes(1);
        x.read(0, 0, 5);
        x.save();
        for (int time = 0; time < 6; time++) {
            x.drop(0);
            due("restore: again", x.restore(), 1);
            due("restore: its reading again", x.reading(0, 0), 100005);
        }
    }

    /** "Returns how many readings there are": 0, and 40. */
    private static void saveAndRestoreTellReadings() {
        LostZeros x = Ready.withForty();
        due("save: 40", x.save(), 40);
        x.drop(0);
        due("save: restored 40", x.restore(), 40);
        due("save: 40 again", x.save(), 40);
        due("save: the limit is back", x.read(4, 0, 0), -3);
    }

    /** "A call that returns an error changes nothing": neither history nor snapshot. */
    private static void errorsLeaveHistoryAndSnapshot() {
        Consumer<LostZeros> table = HistoryEdgesTest::threeTapes;
        String before = Views.of(table);
        CHECK.dueText("errors: take", Views.of(table.andThen(LostZeros::take)), before);
        Consumer<LostZeros> bare = x -> {
            x.tape();
            x.undo();
            Ready.put(x, "0a=1");
        };
        before = Views.of(bare);
        CHECK.dueText("errors: undo", Views.of(bare.andThen(LostZeros::undo)), before);
        CHECK.dueText("errors: restore", Views.of(bare.andThen(LostZeros::restore)), before);
        CHECK.dueText("errors: drop", Views.of(bare.andThen(x -> x.drop(0))), before);
    }
}
