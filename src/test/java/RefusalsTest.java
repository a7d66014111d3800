/**
 * "A call that returns an error changes nothing": each error value of each call, in every state of Stories in which the
 * call may return it, with the ends of int; "If several errors apply to a call": the order in which they are told; and
 * "questions (nothing changes)".
 */
public final class RefusalsTest {
    private static final int LEAST = Integer.MIN_VALUE;
    private static final int MOST = Integer.MAX_VALUE;
    private static final Due D = new Due("RefusalsTest");
    private static final Edges E = new Edges(D);

    public static void main(String[] args) {
        for (int i = 0; i < Stories.ALL.length; i++) {
            String name = Stories.NAMES[i] + ": ";
            Stories.Story story = Stories.ALL[i];
            bowlNumbers(name, story);
            noteNumbers(name, story);
            numbersOfThings(name, story);
            valuesWithoutABowl(name, story);
            allArgumentsAtTheEndsOfInt(name, story);
            questionsChangeNothing(name, story);
        }
        valuesForABowl();
        valuesForNotes();
        notPossible();
        limitReached();
        notFound();
        invalidRatherThanNotPossible();
        invalidRatherThanLimitReached();
        invalidRatherThanNotFound();
        notPossibleRatherThanLimitReached();
        notPossibleRatherThanNotFound();
        D.end();
    }

    /** "If there is no bowl or note with a certain number, this is INVALID_ARGUMENT." */
    private static void bowlNumbers(String name, Stories.Story story) {
        int last = Stories.after(story).count(1) - 1;
        E.refusesBeyond(name + "remove", story, GlassBowls::remove, 0, last);
        E.refusesBeyond(name + "pour", story, (x, v) -> x.pour(v, 1), 0, last);
        E.refusesBeyond(name + "spill", story, (x, v) -> x.spill(v, 1), 0, last);
        E.refusesBeyond(name + "crack", story, (x, v) -> x.crack(v, 0), 0, last);
        E.refusesBeyond(name + "mark", story, (x, v) -> x.mark(v, 0), 0, last);
        E.refusesBeyond(name + "bowlOf", story, (x, v) -> x.bowlOf(v, 0), 0, last);
        E.refusesBeyond(name + "levelFor", story, (x, v) -> x.levelFor(v, 0), 0, last);
        E.refusesBeyond(name + "pitchAt", story, (x, v) -> x.pitchAt(v, x.count(0)), 0, last);
    }

    private static void noteNumbers(String name, Stories.Story story) {
        int last = Stories.after(story).count(2) - 1;
        E.refusesBeyond(name + "drop", story, GlassBowls::drop, 0, last);
        E.refusesBeyond(name + "transpose from", story, (x, v) -> x.transpose(v, last, 1), 0, last);
        E.refusesBeyond(name + "transpose to", story, (x, v) -> x.transpose(0, v, 1), 0, last);
        E.refusesBeyond(name + "transpose one", story, (x, v) -> x.transpose(v, v, 1), 0, last);
        E.refusesBeyond(name + "noteOf", story, (x, v) -> x.noteOf(v, 0), 0, last);
        E.refusesBeyond(name + "wouldBe", story, GlassBowls::wouldBe, 0, last);
    }

    private static void numbersOfThings(String name, Stories.Story story) {
        E.range(name + "count", story, GlassBowls::count, 0, 8);
        E.range(name + "count", story, GlassBowls::count, 10, 13);
        E.range(name + "count", story, GlassBowls::count, 20, 24);
        E.range(name + "fault", story, GlassBowls::fault, 0, 1);
        E.refusesBeyond(name + "set what", story, (x, v) -> x.set(v, 1), 0, 3);
    }

    private static void valuesWithoutABowl(String name, Stories.Story story) {
        E.range(name + "bowl base", story, (x, v) -> x.bowl(v, 1), 0, 6000);
        E.range(name + "bowl depth", story, (x, v) -> x.bowl(0, v), 1, 2400);
        E.range(name + "nearest", story, GlassBowls::nearest, 0, 6000);
        E.range(name + "set drying", story, (x, v) -> x.set(0, v), 1, 600);
        E.range(name + "set gap", story, (x, v) -> x.set(1, v), 1, 600);
        E.range(name + "set tolerance", story, (x, v) -> x.set(2, v), 0, 600);
        E.range(name + "set filling", story, (x, v) -> x.set(3, v), 0, 1);
        E.range(name + "note time", story, (x, v) -> x.note(v, 0), 0, 3600);
        E.range(name + "note pitch", story, (x, v) -> x.note(700, v), 0, 6000);
        E.range(name + "run", story, GlassBowls::run, 1, 600);
        E.range(name + "type", story, GlassBowls::type, 32, 126);
        E.letsIn(name + "worst", story, GlassBowls::worst, 0);
        E.letsIn(name + "worst", story, GlassBowls::worst, MOST);
        E.changesNothing(name + "worst(-1)", story, x -> x.worst(-1), Due.INVALID);
        E.changesNothing(name + "worst(least)", story, x -> x.worst(LEAST), Due.INVALID);
    }

    private static void allArgumentsAtTheEndsOfInt(String name, Stories.Story story) {
        int[] ends = {LEAST, MOST};
        for (int a : ends) {
            for (int b : ends) {
                String both = name + a + ", " + b + ": ";
                E.changesNothing(both + "bowl", story, x -> x.bowl(a, b), Due.INVALID);
                E.changesNothing(both + "pour", story, x -> x.pour(a, b), Due.INVALID);
                E.changesNothing(both + "spill", story, x -> x.spill(a, b), Due.INVALID);
                E.changesNothing(both + "crack", story, x -> x.crack(a, b), Due.INVALID);
                E.changesNothing(both + "mark", story, x -> x.mark(a, b), Due.INVALID);
                E.changesNothing(both + "bowlOf", story, x -> x.bowlOf(a, b), Due.INVALID);
                E.changesNothing(both + "levelFor", story, x -> x.levelFor(a, b), Due.INVALID);
                E.changesNothing(both + "set", story, x -> x.set(a, b), Due.INVALID);
                E.changesNothing(both + "note", story, x -> x.note(a, b), Due.INVALID);
                E.changesNothing(both + "noteOf", story, x -> x.noteOf(a, b), Due.INVALID);
                E.changesNothing(both + "pitchAt", story, x -> x.pitchAt(a, b), Due.INVALID);
                E.changesNothing(both + "transpose", story, x -> x.transpose(a, b, a), Due.INVALID);
                E.changesNothing(both + "transpose", story, x -> x.transpose(a, b, b), Due.INVALID);
            }
        }
    }

    /** A question is asked of one object and then of another one: it answers the same, and changes nothing. */
    private static void questionsChangeNothing(String name, Stories.Story story) {
        Edges.Call[] questions = {x -> x.bowlOf(0, 5), x -> x.bowlOf(0, 6), x -> x.levelFor(0, 100),
            x -> x.nearest(100), x -> x.count(21), x -> x.noteOf(0, 2), x -> x.worst(0), x -> x.wouldBe(x.count(2) - 1),
            GlassBowls::firstFalse, GlassBowls::leastTolerance, x -> x.pitchAt(0, 3600), x -> x.fault(0),
            x -> x.fault(1)};
        for (int i = 0; i < questions.length; i++) {
            E.changesNothing(name + "question " + i, story, questions[i], questions[i].on(Stories.after(story)));
        }
    }

    private static void valuesForABowl() {
        Stories.Story story = Stories.MIDDLE;
        E.range("pour drops", story, (x, v) -> x.pour(2, v), 1, 1000);
        E.range("spill drops", story, (x, v) -> x.spill(0, v), 1, 1000);
        E.range("crack level", story, (x, v) -> x.crack(0, v), 0, 1000);
        E.range("mark level", story, (x, v) -> x.mark(0, v), 0, 1000);
        E.range("bowlOf what", story, (x, v) -> x.bowlOf(0, v), 0, 6);
        E.range("levelFor pitch", story, (x, v) -> x.levelFor(0, v), -3000, 6000);
        E.range("pitchAt time, at 0", x -> x.bowl(1, 1), (x, v) -> x.pitchAt(0, v), 0, 3600);
        E.range("pitchAt time, at 20", story, (x, v) -> x.pitchAt(0, v), 20, 3600);
        E.range("pitchAt time, at 600", Stories.FULL, (x, v) -> x.pitchAt(9, v), 600, 3600);
        E.range("pitchAt time, at 3600", Stories.END, (x, v) -> x.pitchAt(0, v), 3600, 3600);
    }

    private static void valuesForNotes() {
        Stories.Story story = Stories.MIDDLE;
        E.range("noteOf what", story, (x, v) -> x.noteOf(1, v), 0, 6);
        E.range("transpose cents", story, (x, v) -> x.transpose(0, 0, v), -6000, 6000);
        E.changesNothing("transpose by 0", story, x -> x.transpose(0, 0, 0), Due.INVALID);
        E.letsIn("transpose by -1", story, (x, v) -> x.transpose(0, 0, v), -1);
        E.letsIn("transpose by 1", story, (x, v) -> x.transpose(0, 0, v), 1);
        E.changesNothing("to less than from", story, x -> x.transpose(1, 0, 1), Due.INVALID);
        E.changesNothing("to less than from", Stories.FULL, x -> x.transpose(39, 38, 1), Due.INVALID);
        E.letsIn("to that is from", story, (x, v) -> x.transpose(v, v, 1), 1);
    }

    private static void notPossible() {
        Stories.Story story = Stories.MIDDLE;
        E.changesNothing("undo of nothing", Stories.EMPTY, GlassBowls::undo, Due.NOT_POSSIBLE);
        E.changesNothing("spill of more", story, x -> x.spill(0, 301), Due.NOT_POSSIBLE);
        E.changesNothing("spill of all and more", story, x -> x.spill(1, 1000), Due.NOT_POSSIBLE);
        E.changesNothing("spill of an empty one", story, x -> x.spill(2, 1), Due.NOT_POSSIBLE);
        E.changesNothing("a note at the first time", story, x -> x.note(0, 1), Due.NOT_POSSIBLE);
        E.changesNothing("a note at the last time", story, x -> x.note(40, 1), Due.NOT_POSSIBLE);
        E.changesNothing("transpose below 0", story, x -> x.transpose(0, 0, -101), Due.NOT_POSSIBLE);
        E.changesNothing("transpose above 6000", story, x -> x.transpose(0, 4, 4801), Due.NOT_POSSIBLE);
        E.changesNothing("wouldBe of the past", story, x -> x.wouldBe(2), Due.NOT_POSSIBLE);
        E.changesNothing("wouldBe of the present", story, x -> x.wouldBe(3), Due.NOT_POSSIBLE);
        E.changesNothing("wouldBe of the last second", Stories.END, x -> x.wouldBe(1), Due.NOT_POSSIBLE);
        E.changesNothing("enter with a fault", Stories.SILENT, GlassBowls::enter, Due.NOT_POSSIBLE);
        E.changesNothing("enter with notes there are", Stories.FULL, GlassBowls::enter, Due.NOT_POSSIBLE);
    }

    private static void limitReached() {
        Stories.Story story = Stories.MIDDLE;
        E.changesNothing("an eleventh bowl", Stories.FULL, x -> x.bowl(0, 1), Due.LIMIT);
        E.changesNothing("an eleventh bowl", Stories.FULL, x -> x.bowl(6000, 2400), Due.LIMIT);
        E.changesNothing("pour of one too many", story, x -> x.pour(0, 701), Due.LIMIT);
        E.changesNothing("pour of the most", story, x -> x.pour(0, 1000), Due.LIMIT);
        E.changesNothing("pour above the rim at a crack", story, x -> x.pour(1, 101), Due.LIMIT);
        E.changesNothing("a note too many", Stories.FULL, x -> x.note(3600, 0), Due.LIMIT);
        E.changesNothing("a note too many", Stories.FULL, x -> x.note(22, 6000), Due.LIMIT);
        E.changesNothing("run beyond the end", Stories.END, x -> x.run(1), Due.LIMIT);
        E.changesNothing("run far beyond the end", Stories.END, x -> x.run(600), Due.LIMIT);
        E.changesNothing("a character too many", Stories.FULL, x -> x.type(32), Due.LIMIT);
        E.changesNothing("a character too many", Stories.FULL, x -> x.type(126), Due.LIMIT);
    }

    private static void notFound() {
        Stories.Story story = Stories.SILENT;
        E.changesNothing("nearest without bowls", Stories.EMPTY, x -> x.nearest(0), Due.NOT_FOUND);
        E.changesNothing("nearest without bowls", story, x -> x.nearest(6000), Due.NOT_FOUND);
        for (int i = 4; i <= 6; i++) {
            int what = i;
            E.changesNothing("noteOf a silent one", story, x -> x.noteOf(0, what), Due.NOT_FOUND);
            E.changesNothing("noteOf one to come", story, x -> x.noteOf(1, what), Due.NOT_FOUND);
            E.changesNothing("noteOf one added too late", Stories.MIDDLE, x -> x.noteOf(3, what), Due.NOT_FOUND);
        }
        E.changesNothing("worst of none", Stories.EMPTY, x -> x.worst(0), Due.NOT_FOUND);
        E.changesNothing("worst of a silent one", story, x -> x.worst(0), Due.NOT_FOUND);
        E.changesNothing("worst of two", Stories.MIDDLE, x -> x.worst(2), Due.NOT_FOUND);
        E.changesNothing("worst of one", Stories.END, x -> x.worst(1), Due.NOT_FOUND);
        E.changesNothing("wouldBe without bowls", story, x -> x.wouldBe(1), Due.NOT_FOUND);
        E.changesNothing("firstFalse, silent", story, GlassBowls::firstFalse, Due.NOT_FOUND);
        E.changesNothing("firstFalse at the end", Stories.END, GlassBowls::firstFalse, Due.NOT_FOUND);
        E.changesNothing("leastTolerance without bowls", story, GlassBowls::leastTolerance, Due.NOT_FOUND);
        E.changesNothing("leastTolerance at the end", Stories.END, GlassBowls::leastTolerance, Due.NOT_FOUND);
        E.changesNothing("fault of no text", Stories.EMPTY, x -> x.fault(0), Due.NOT_FOUND);
        E.changesNothing("fault of a good text", Stories.MIDDLE, x -> x.fault(1), Due.NOT_FOUND);
    }

    /** "INVALID_ARGUMENT is returned rather than NOT_POSSIBLE" */
    private static void invalidRatherThanNotPossible() {
        Stories.Story story = Stories.MIDDLE;
        E.changesNothing("spill of 1001 that are not there", story, x -> x.spill(2, 1001), Due.INVALID);
        E.changesNothing("spill of no bowl and too much", story, x -> x.spill(3, 1000), Due.INVALID);
        E.changesNothing("a note at a taken time, too high", story, x -> x.note(10, 6001), Due.INVALID);
        E.changesNothing("a note at a taken time, too low", story, x -> x.note(10, -1), Due.INVALID);
        E.changesNothing("transpose by 6001, out of the pitches", story, x -> x.transpose(0, 1, 6001), Due.INVALID);
        E.changesNothing("transpose by -6001, out of the pitches", story, x -> x.transpose(0, 1, -6001), Due.INVALID);
        E.changesNothing("transpose to none, out of the pitches", story, x -> x.transpose(0, 5, -6000), Due.INVALID);
        E.changesNothing("transpose backwards, out of the pitches", story, x -> x.transpose(1, 0, -6000), Due.INVALID);
        E.changesNothing("wouldBe of none at the end", Stories.END, x -> x.wouldBe(2), Due.INVALID);
    }

    /** "INVALID_ARGUMENT ... rather than LIMIT_REACHED" */
    private static void invalidRatherThanLimitReached() {
        Stories.Story full = Stories.FULL;
        E.changesNothing("an eleventh bowl, too high", full, x -> x.bowl(6001, 1), Due.INVALID);
        E.changesNothing("an eleventh bowl, too flat", full, x -> x.bowl(0, 0), Due.INVALID);
        E.changesNothing("pour of 1001 into water", full, x -> x.pour(9, 1001), Due.INVALID);
        E.changesNothing("pour of 1000 into no bowl", full, x -> x.pour(10, 1000), Due.INVALID);
        E.changesNothing("a note too many, too high", full, x -> x.note(22, 6001), Due.INVALID);
        E.changesNothing("a note too many, too late", full, x -> x.note(3601, 0), Due.INVALID);
        E.changesNothing("run of 601 at the end", Stories.END, x -> x.run(601), Due.INVALID);
        E.changesNothing("run of 0 at the end", Stories.END, x -> x.run(0), Due.INVALID);
        E.changesNothing("a wrong character too many", full, x -> x.type(31), Due.INVALID);
        E.changesNothing("a wrong character too many", full, x -> x.type(127), Due.INVALID);
    }

    /** "INVALID_ARGUMENT ... rather than NOT_FOUND" */
    private static void invalidRatherThanNotFound() {
        Stories.Story story = Stories.SILENT;
        E.changesNothing("nearest too low, without bowls", story, x -> x.nearest(-1), Due.INVALID);
        E.changesNothing("nearest too high, without bowls", story, x -> x.nearest(6001), Due.INVALID);
        E.changesNothing("noteOf a silent one, 7", story, x -> x.noteOf(0, 7), Due.INVALID);
        E.changesNothing("noteOf one to come, -1", story, x -> x.noteOf(1, -1), Due.INVALID);
        E.changesNothing("noteOf none, 4", story, x -> x.noteOf(2, 4), Due.INVALID);
        E.changesNothing("worst(-1) of none", story, x -> x.worst(-1), Due.INVALID);
        E.changesNothing("wouldBe of none, without bowls", story, x -> x.wouldBe(2), Due.INVALID);
        E.changesNothing("fault(2) of no text", Stories.EMPTY, x -> x.fault(2), Due.INVALID);
        E.changesNothing("fault(-1) of no text", Stories.EMPTY, x -> x.fault(-1), Due.INVALID);
    }

    /** "NOT_POSSIBLE rather than LIMIT_REACHED" */
    private static void notPossibleRatherThanLimitReached() {
        E.changesNothing("a 41st note at the first taken time", Stories.FULL, x -> x.note(0, 0), Due.NOT_POSSIBLE);
        E.changesNothing("a 41st note at the last taken time", Stories.FULL, x -> x.note(3510, 0), Due.NOT_POSSIBLE);
    }

    /** No call may return both LIMIT_REACHED and NOT_FOUND, but one may return NOT_POSSIBLE and NOT_FOUND. */
    private static void notPossibleRatherThanNotFound() {
        E.changesNothing("wouldBe of the past, without bowls", Stories.SILENT, x -> x.wouldBe(0), Due.NOT_POSSIBLE);
    }
}
