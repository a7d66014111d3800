/** Promises 21 to 24: each sentence that names a boundary case, with a test of its own. */
public final class QuestionsEdgesTest {
    private static final Due D = new Due("QuestionsEdgesTest");

    public static void main(String[] args) {
        wouldBeFromTheNextSecondOn();
        wouldBeAtTheLastSecond();
        wouldBeAgainAfterRewind();
        wouldBeOfTheLastOfForty();
        wouldBeIsWhatComes();
        firstFalseAtTheTolerance();
        firstFalseOfTheOnesToCome();
        firstFalseOfTheLastOfForty();
        firstFalseLeavesSilentOnesOut();
        leastToleranceWithWhichAllAreClean();
        leastToleranceAboveItsRange();
        leastToleranceWithoutBowlsOrNotes();
        pitchAtThePresentAndTheEnd();
        pitchAtBehindAllOfTheSecond();
        pitchAtOfAnEmptyBowl();
        questionsAnswerTheSameTwice();
        D.end();
    }

    /** "NOT_POSSIBLE if its time is not greater than the present one" */
    private static void wouldBeFromTheNextSecondOn() {
        int[] times = {0, 1, 100, 599};
        for (int time : times) {
            GlassBowls x = Stories.bowlAt(1000);
            if (time > 0) {
                x.run(time);
                x.note(time - 1, 1000);
                D.due("one second ago, at " + time, x.wouldBe(0), Due.NOT_POSSIBLE);
                x.drop(0);
            }
            x.note(time, 1000);
            D.due("now, at " + time, x.wouldBe(0), Due.NOT_POSSIBLE);
            x.note(time + 1, 1007);
            D.due("in the next second, at " + time, x.wouldBe(1), -7);
            x.run(1);
            D.due("when it came", x.wouldBe(1), Due.NOT_POSSIBLE);
        }
    }

    private static void wouldBeAtTheLastSecond() {
        GlassBowls x = Stories.bowlWith(1000, 1000, 1000);
        x.note(3600, 5);
        for (int i = 0; i < 6; i++) {
            D.due("60 drops less, asked at " + 600 * i, x.wouldBe(0), 1000 - 883 - 5);
            x.run(600);
        }
        D.due("it came", x.noteOf(0, 5), 1000 - 883 - 5);
        D.due("in the last second", x.wouldBe(0), Due.NOT_POSSIBLE);
    }

    private static void wouldBeAgainAfterRewind() {
        GlassBowls x = Stories.bowlAt(1000);
        x.note(10, 990);
        x.run(10);
        D.due("played", x.wouldBe(0), Due.NOT_POSSIBLE);
        x.rewind();
        D.due("to come again", x.wouldBe(0), 10);
        x.undo();
        D.due("played again", x.wouldBe(0), Due.NOT_POSSIBLE);
        x.remove(0);
        D.due("not possible rather than not found", x.wouldBe(0), Due.NOT_POSSIBLE);
        x.rewind();
        D.due("without bowls", x.wouldBe(0), Due.NOT_FOUND);
    }

    private static void wouldBeOfTheLastOfForty() {
        GlassBowls x = Stories.bowlAt(1000);
        for (int i = 0; i < 40; i++) {
            x.note(i, 1000 + i);
        }
        D.due("note 0, at the time 0", x.wouldBe(0), Due.NOT_POSSIBLE);
        for (int i = 1; i < 40; i++) {
            D.due("note " + i, x.wouldBe(i), -i);
        }
        D.due("note 40", x.wouldBe(40), Due.INVALID);
        D.due("note -1", x.wouldBe(-1), Due.INVALID);
    }

    /** "Returns the error that a note would have, if nothing else is done until it is played." */
    private static void wouldBeIsWhatComes() {
        GlassBowls x = Stories.bowlWith(1000, 1000, 500);
        x.bowl(900, 2400);
        x.mark(0, 600);
        x.mark(1, 300);
        x.crack(1, 250);
        x.set(0, 3);
        x.set(3, 1);
        int[] times = {1, 10, 11, 21, 40, 600};
        for (int i = 0; i < times.length; i++) {
            x.note(times[i], 640 + 40 * i);
        }
        int[] would = new int[times.length];
        for (int i = 0; i < times.length; i++) {
            would[i] = x.wouldBe(i);
        }
        x.run(600);
        for (int i = 0; i < times.length; i++) {
            D.due("note " + i, would[i], x.noteOf(i, 5));
        }
        D.due("the first one, filled", would[0], 0);
    }

    /** "Returns the first note to come that would not be clean": at the tolerance it is clean, one beyond it not. */
    private static void firstFalseAtTheTolerance() {
        int[] tolerances = {0, 1, 10, 600};
        for (int tolerance : tolerances) {
            GlassBowls x = Stories.bowlAt(3000);
            x.set(2, tolerance);
            x.note(1, 3000 + tolerance);
            x.note(2, 3000 - tolerance);
            D.due("all at the tolerance " + tolerance, x.firstFalse(), Due.NOT_FOUND);
            x.note(4, 3000 - tolerance - 1);
            D.due("a bowl too high by one more", x.firstFalse(), 2);
            x.note(3, 3000 + tolerance + 1);
            x.drop(3);
            D.due("a bowl too low by one more", x.firstFalse(), 2);
            x.drop(2);
            D.due("none again", x.firstFalse(), Due.NOT_FOUND);
        }
    }

    /** "to come": later than now; "NOT_FOUND if there is none" */
    private static void firstFalseOfTheOnesToCome() {
        GlassBowls x = Stories.bowlAt(1000);
        D.due("without notes", x.firstFalse(), Due.NOT_FOUND);
        int[] times = {0, 1, 2, 3600};
        for (int time : times) {
            x.note(time, 2000);
        }
        int[] due = {1, 2, 3};
        for (int i = 0; i < due.length; i++) {
            D.due("at " + i, x.firstFalse(), due[i]);
            x.run(1);
        }
        for (int i = 0; i < 5; i++) {
            x.run(600);
        }
        x.run(596);
        D.due("one second ahead of the last one", x.firstFalse(), 3);
        x.run(1);
        D.due("at the last one", x.firstFalse(), Due.NOT_FOUND);
        x.rewind();
        D.due("set back", x.firstFalse(), 1);
    }

    private static void firstFalseOfTheLastOfForty() {
        GlassBowls x = Stories.bowlAt(1000);
        for (int i = 0; i < 40; i++) {
            x.note(3561 + i, i == 39 ? 2000 : 1000);
        }
        D.due("the last of forty", x.firstFalse(), 39);
        x.transpose(0, 0, 11);
        D.due("the first of forty", x.firstFalse(), 0);
    }

    /** "(silent ones do not count)" */
    private static void firstFalseLeavesSilentOnesOut() {
        GlassBowls x = new GlassBowls();
        x.note(1, 2000);
        x.note(2, 2000);
        D.due("without bowls", x.firstFalse(), Due.NOT_FOUND);
        x.run(1);
        D.due("when one was silent", x.firstFalse(), Due.NOT_FOUND);
        x.bowl(1000, 1);
        D.due("with a bowl", x.firstFalse(), 1);
        x.remove(0);
        D.due("without it", x.firstFalse(), Due.NOT_FOUND);
    }

    /** "the least tolerance ... with which all notes to come would be clean" */
    private static void leastToleranceWithWhichAllAreClean() {
        int[] errors = {1, 10, 599, 600};
        for (int error : errors) {
            GlassBowls x = Stories.bowlAt(3000);
            x.note(0, 6000);
            x.note(1, 3000);
            x.note(2, 3000);
            D.due("without errors", x.leastTolerance(), 0);
            x.transpose(1, 1, error);
            D.due("a bowl too low by " + error, x.leastTolerance(), error);
            x.transpose(1, 1, -2 * error);
            D.due("a bowl too high by " + error, x.leastTolerance(), error);
            x.set(2, error);
            D.due("with it all are clean", x.firstFalse(), Due.NOT_FOUND);
            x.set(2, error - 1);
            D.due("with one less not", x.firstFalse(), 1);
        }
    }

    /** "(also one above 600)" */
    private static void leastToleranceAboveItsRange() {
        GlassBowls x = Stories.bowlAt(3000);
        x.note(1, 3601);
        D.due("just above", x.leastTolerance(), 601);
        x.transpose(0, 0, 2399);
        D.due("far above", x.leastTolerance(), 3000);
        GlassBowls y = Stories.bowlWith(0, 2400, 1000);
        y.note(59, 6000);
        D.due("the greatest of all", y.leastTolerance(), 8400);
        y.note(60, 6000);
        D.due("it stays when water dries", y.leastTolerance(), 8400);
        y.run(59);
        D.due("without that one", y.leastTolerance(), 8395);
    }

    /** "NOT_FOUND without bowls, or if no note is to come" */
    private static void leastToleranceWithoutBowlsOrNotes() {
        GlassBowls x = new GlassBowls();
        D.due("without both", x.leastTolerance(), Due.NOT_FOUND);
        x.note(1, 5);
        D.due("without bowls", x.leastTolerance(), Due.NOT_FOUND);
        x.bowl(5, 1);
        D.due("with both", x.leastTolerance(), 0);
        x.run(1);
        D.due("no note is to come", x.leastTolerance(), Due.NOT_FOUND);
        x.note(0, 5);
        D.due("one of the past", x.leastTolerance(), Due.NOT_FOUND);
        x.note(2, 6);
        D.due("one of the next second", x.leastTolerance(), 1);
        x.remove(0);
        D.due("without bowls again", x.leastTolerance(), Due.NOT_FOUND);
    }

    /** "time: the present time to 3600" */
    private static void pitchAtThePresentAndTheEnd() {
        GlassBowls x = Stories.bowlWith(1000, 1000, 1000);
        int[] runs = {60, 540, 600, 600, 600, 600, 600};
        int time = 0;
        for (int seconds : runs) {
            D.due("now, at " + time, x.pitchAt(0, time), x.bowlOf(0, 5));
            D.due("one second ago, at " + time, x.pitchAt(0, time - 1), Due.INVALID);
            D.due("at the end, from " + time, x.pitchAt(0, 3600), 117);
            D.due("behind the end, from " + time, x.pitchAt(0, 3601), Due.INVALID);
            x.run(seconds);
            time += seconds;
        }
        D.due("the end is now", x.pitchAt(0, 3600), x.bowlOf(0, 5));
        D.due("one second ahead of the end", x.pitchAt(0, 3599), Due.INVALID);
        D.due("behind the end", x.pitchAt(0, 3601), Due.INVALID);
        D.due("no such bowl at the end", x.pitchAt(1, 3600), Due.INVALID);
    }

    /** "behind all that happens in this second" */
    private static void pitchAtBehindAllOfTheSecond() {
        GlassBowls x = Stories.bowlWith(1000, 1000, 1000);
        x.bowl(1000, 1000);
        x.mark(1, 500);
        x.set(3, 1);
        x.note(60, 5);
        D.due("ahead of the drying", x.pitchAt(0, 59), 0);
        D.due("behind the drying", x.pitchAt(0, 60), 2);
        D.due("ahead of the filling", x.pitchAt(1, 59), 1000);
        D.due("behind the filling", x.pitchAt(1, 60), 750);
        D.due("ahead of the next drying", x.pitchAt(1, 119), 750);
        D.due("behind the next drying", x.pitchAt(1, 120), 1000 - 249);
        x.run(60);
        D.due("the second that was", x.pitchAt(1, 60), 750);
        x.spill(1, 500);
        D.due("it does not happen again", x.pitchAt(1, 60), 1000);
    }

    private static void pitchAtOfAnEmptyBowl() {
        GlassBowls x = Stories.bowlWith(0, 2400, 1);
        x.set(0, 600);
        D.due("nothing is below empty", x.pitchAt(0, 3600), 0);
        x.pour(0, 999);
        D.due("six drops dry", x.pitchAt(0, 3600), -2371);
        x.set(0, 1);
        D.due("all but one dry", x.pitchAt(0, 999), 0);
        D.due("one second", x.pitchAt(0, 1), -2395);
        D.due("all dry long before the end", x.pitchAt(0, 3600), 0);
    }

    /** "---- questions (nothing changes)": what one of them tried out is not left over for the next one. */
    private static void questionsAnswerTheSameTwice() {
        GlassBowls x = Stories.after(Stories.FULL);
        int[] first = answers(x);
        int[] second = answers(x);
        for (int i = 0; i < first.length; i++) {
            D.due("question " + i + " again", second[i], first[i]);
        }
        D.due("the time", x.count(0), 600);
        D.due("nothing more was played", x.count(4), 21);
    }

    private static int[] answers(GlassBowls x) {
        return new int[] {x.wouldBe(39), x.pitchAt(9, 3600), x.firstFalse(), x.pitchAt(0, 600), x.leastTolerance(),
            x.fault(0), x.wouldBe(22), x.fault(1), x.pitchAt(5, 2000), x.wouldBe(0), x.nearest(3000)};
    }
}
