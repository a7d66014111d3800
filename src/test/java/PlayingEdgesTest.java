/** "Playing" of the document's terms: each sentence that names a boundary case, with a test of its own. */
public final class PlayingEdgesTest {
    private static final Due D = new Due("PlayingEdgesTest");

    public static void main(String[] args) {
        driesAtMultiples();
        driesOnlyAboveZero();
        driesBeforeTheNote();
        theNoteOfTheLastSecondOfARun();
        fillsBelowTheMark();
        fillsOnlyAtAPhrase();
        fillsAfterTheDrying();
        fillsUpToTheCrack();
        nearestOfSeveral();
        errorIsBowlMinusNote();
        cleanAtMostTheTolerance();
        toleranceAsItIsThen();
        notGreaterThanThePresentTime();
        atZeroNever();
        silentWithoutBowls();
        whatWasPlayedIsKept();
        removedWithTheNote();
        D.end();
    }

    /** "When the time comes to a second s (from s - 1), first, if s is a multiple of the drying" */
    private static void driesAtMultiples() {
        int[] dryings = {1, 2, 7, 60, 599, 600};
        for (int drying : dryings) {
            GlassBowls x = Stories.bowlWith(5, 1, 1000);
            x.set(0, drying);
            if (drying > 1) {
                x.run(drying - 1);
            }
            D.due("ahead of the first multiple of " + drying, x.bowlOf(0, 2), 1000);
            x.run(1);
            D.due("at the first multiple of " + drying, x.bowlOf(0, 2), 999);
            x.run(drying);
            D.due("at the second multiple of " + drying, x.bowlOf(0, 2), 998);
            D.due("dried", x.count(22), 2);
        }
        GlassBowls y = Stories.bowlWith(5, 1, 1000);
        y.run(59);
        y.set(0, 59);
        y.run(58);
        D.due("the time that went by before is no matter", y.bowlOf(0, 2), 1000);
        y.run(1);
        D.due("118 is a multiple of 59", y.bowlOf(0, 2), 999);
        y.rewind();
        D.due("nothing dries when the time is set back", y.bowlOf(0, 2), 999);
    }

    /** "each bowl with a level above 0 loses one drop by drying" */
    private static void driesOnlyAboveZero() {
        GlassBowls x = Stories.bowlWith(5, 1, 1);
        x.bowl(5, 1);
        x.pour(1, 2);
        x.bowl(5, 1);
        x.set(0, 1);
        int[][] levels = {{0, 1, 0}, {0, 0, 0}, {0, 0, 0}};
        int[] dried = {2, 3, 3};
        for (int second = 0; second < 3; second++) {
            x.run(1);
            D.due("dried at " + second, x.count(22), dried[second]);
            for (int i = 0; i < 3; i++) {
                D.due("level of " + i + " at " + second, x.bowlOf(i, 2), levels[second][i]);
            }
        }
        GlassBowls y = Stories.bowlWith(5, 1, 1000);
        y.set(0, 1);
        y.run(600);
        y.run(399);
        D.due("one is left", y.bowlOf(0, 2), 1);
        y.run(600);
        D.due("all are dried", y.count(22), 1000);
    }

    /** "first, if s is a multiple of the drying ...; then, if there is a note at this time, it is played" */
    private static void driesBeforeTheNote() {
        GlassBowls x = Stories.bowlWith(1000, 1000, 1000);
        x.note(59, 0);
        x.note(60, 0);
        x.note(61, 0);
        x.run(61);
        int[] errors = {0, 2, 2};
        for (int i = 0; i < 3; i++) {
            D.due("error of " + i, x.noteOf(i, 5), errors[i]);
        }
    }

    /** "if there is a note at this time, it is played": the last second of a run belongs to it, the first one not. */
    private static void theNoteOfTheLastSecondOfARun() {
        GlassBowls x = Stories.bowlAt(5);
        x.note(9, 5);
        x.note(10, 5);
        x.note(11, 5);
        x.note(3600, 5);
        D.due("up to 9", x.run(9), 1);
        D.due("10", x.run(1), 1);
        D.due("11 to 20", x.run(10), 1);
        D.due("nothing was played twice", x.count(4), 3);
        for (int i = 0; i < 5; i++) {
            x.run(600);
        }
        D.due("up to 3599", x.run(579), 0);
        D.due("3600", x.run(1), 1);
    }

    /** "each bowl whose level is below its mark is filled up to it (mark - level drops are poured ...)" */
    private static void fillsBelowTheMark() {
        int[][] levels = {{499, 500, 1}, {500, 500, 0}, {501, 501, 0}, {0, 500, 500}, {1000, 1000, 0}};
        for (int[] d : levels) {
            GlassBowls x = Stories.bowlWith(5, 1, d[0]);
            x.mark(0, 500);
            x.set(3, 1);
            x.note(1, 5);
            x.run(1);
            D.due("level that was " + d[0], x.bowlOf(0, 2), d[1]);
            D.due("poured besides", x.count(20) - d[0], d[2]);
        }
        GlassBowls y = Stories.bowlAt(5);
        y.mark(0, 1000);
        y.bowl(5, 1);
        y.set(3, 1);
        y.note(1, 5);
        y.run(1);
        D.due("a mark at 1000", y.bowlOf(0, 2), 1000);
        D.due("a mark at 0", y.bowlOf(1, 2), 0);
    }

    /** "if filling is 1, and the note begins a phrase" */
    private static void fillsOnlyAtAPhrase() {
        GlassBowls x = Stories.bowlAt(5);
        x.mark(0, 10);
        x.note(10, 5);
        x.run(10);
        D.due("not with filling 0", x.bowlOf(0, 2), 0);
        x.note(19, 5);
        x.note(20, 5);
        x.note(30, 5);
        x.set(3, 1);
        x.run(19);
        D.due("not 9 and 1 seconds later", x.bowlOf(0, 2), 0);
        x.run(1);
        D.due("10 seconds later", x.bowlOf(0, 2), 10);
        x.spill(0, 10);
        x.set(1, 1);
        x.run(9);
        D.due("not without a note", x.bowlOf(0, 2), 0);
        x.note(40, 5);
        x.run(1);
        D.due("the gap as it is then", x.bowlOf(0, 2), 10);
        x.set(3, 0);
        x.spill(0, 10);
        x.note(50, 5);
        x.run(10);
        D.due("not with filling 0 again", x.bowlOf(0, 2), 0);
    }

    /** "first ... dries ...; then ... filled up": a drop that dries in the same second is poured again. */
    private static void fillsAfterTheDrying() {
        GlassBowls x = Stories.bowlWith(1000, 1000, 500);
        x.mark(0, 500);
        x.set(3, 1);
        x.note(60, 750);
        x.run(59);
        x.run(1);
        D.due("the level", x.bowlOf(0, 2), 500);
        D.due("one dried", x.count(22), 1);
        D.due("one poured", x.count(20), 501);
        D.due("it sounds when it is filled", x.noteOf(0, 5), 0);
    }

    /** "what is above the crack is lost at once" */
    private static void fillsUpToTheCrack() {
        int[][] marks = {{499, 499, 0}, {500, 500, 0}, {501, 500, 1}, {1000, 500, 500}};
        for (int[] d : marks) {
            GlassBowls x = Stories.bowlWith(1000, 1000, 400);
            x.crack(0, 500);
            x.mark(0, d[0]);
            x.set(3, 1);
            x.note(1, 750);
            x.run(1);
            D.due("level with the mark " + d[0], x.bowlOf(0, 2), d[1]);
            D.due("lost", x.count(23), d[2]);
            D.due("poured", x.count(20), d[0]);
            D.due("the bowl sounds without what is lost", x.noteOf(0, 5), d[1] == 500 ? 0 : 1);
        }
        GlassBowls y = Stories.bowlWith(5, 1, 500);
        y.crack(0, 500);
        y.mark(0, 501);
        y.set(3, 1);
        y.note(1, 5);
        y.note(11, 5);
        y.run(11);
        D.due("poured and lost at each phrase", y.count(23), 2);
        D.due("the level stays", y.bowlOf(0, 2), 500);
    }

    /** "the bowl sounds whose pitch is nearest to that of the note, of several the lowest one in number" */
    private static void nearestOfSeveral() {
        int[][] cases = {{990, 1010, 2000, 0}, {1010, 990, 2000, 0}, {1011, 990, 1010, 1}, {1010, 1010, 1010, 0},
            {991, 1008, 992, 1}, {0, 0, 1999, 2}, {0, 2000, 2001, 0}};
        for (int[] c : cases) {
            GlassBowls x = new GlassBowls();
            for (int i = 0; i < 3; i++) {
                x.bowl(c[i], 1);
            }
            x.note(1, 1000);
            x.run(1);
            D.due("nearest of " + c[0] + ", " + c[1] + ", " + c[2], x.noteOf(0, 4), c[3]);
            D.due("its error", x.noteOf(0, 5), c[c[3]] - 1000);
            D.due("nearest now", x.nearest(1000), c[3]);
        }
        GlassBowls y = new GlassBowls();
        for (int i = 0; i < 10; i++) {
            y.bowl(600 * i, 1);
        }
        D.due("the tenth", y.nearest(6000), 9);
        D.due("between the ninth and the tenth", y.nearest(5100), 8);
        D.due("one nearer to the tenth", y.nearest(5101), 9);
    }

    /** "The error of the note is the pitch of the bowl minus that of the note." */
    private static void errorIsBowlMinusNote() {
        GlassBowls x = Stories.bowlAt(6000);
        x.note(1, 0);
        x.note(2, 6000);
        x.run(2);
        D.due("the greatest error", x.noteOf(0, 5), 6000);
        D.due("no error", x.noteOf(1, 5), 0);
        GlassBowls y = Stories.bowlWith(0, 2400, 1000);
        y.note(1, 6000);
        y.run(1);
        D.due("the least error", y.noteOf(0, 5), -8400);
    }

    /** "It is clean if the size of the error is at most the tolerance" */
    private static void cleanAtMostTheTolerance() {
        int[] tolerances = {0, 1, 10, 599, 600};
        for (int tolerance : tolerances) {
            GlassBowls x = Stories.bowlAt(3000);
            x.set(2, tolerance);
            int[] errors = {-tolerance - 1, -tolerance, tolerance, tolerance + 1};
            for (int i = 0; i < 4; i++) {
                x.note(i + 1, 3000 - errors[i]);
            }
            x.run(4);
            for (int i = 0; i < 4; i++) {
                D.due("error", x.noteOf(i, 5), errors[i]);
                D.due("clean with " + tolerance + ": " + errors[i], x.noteOf(i, 6), i == 1 || i == 2 ? 1 : 0);
            }
            D.due("clean ones", x.count(5), 2);
        }
    }

    /** "the tolerance, as this is then" */
    private static void toleranceAsItIsThen() {
        GlassBowls x = Stories.bowlAt(3000);
        x.note(1, 2990);
        x.note(2, 2990);
        x.run(1);
        x.set(2, 9);
        x.run(1);
        D.due("clean then", x.noteOf(0, 6), 1);
        D.due("not clean then", x.noteOf(1, 6), 0);
        x.set(2, 600);
        D.due("not clean later either", x.noteOf(1, 6), 0);
        x.set(2, 0);
        D.due("clean ones", x.count(5), 1);
    }

    /** "A note whose time is not greater than the present one, when it is added, is not played, unless ... set back" */
    private static void notGreaterThanThePresentTime() {
        GlassBowls x = Stories.bowlAt(5);
        x.run(100);
        x.note(99, 5);
        x.note(100, 5);
        x.note(101, 5);
        D.due("one is to come", x.run(600), 1);
        int[] played = {0, 0, 1};
        for (int i = 0; i < 3; i++) {
            D.due("played: " + i, x.noteOf(i, 3), played[i]);
        }
        x.rewind();
        D.due("it comes to 99 again", x.run(99), 1);
        D.due("and to 100", x.run(1), 1);
        D.due("and to 101", x.run(1), 1);
    }

    /** "one at the time 0 never is" */
    private static void atZeroNever() {
        GlassBowls x = Stories.bowlAt(5);
        x.note(0, 5);
        D.due("not in the first second", x.run(1), 0);
        x.rewind();
        D.due("not when the time is set back", x.count(4), 0);
        D.due("nor then", x.run(600), 0);
        D.due("not played", x.noteOf(0, 3), 0);
        D.due("no bowl", x.noteOf(0, 4), Due.NOT_FOUND);
        x.rewind();
        D.due("it is never to come", x.wouldBe(0), Due.NOT_POSSIBLE);
        D.due("so it is never false", x.firstFalse(), Due.NOT_FOUND);
        D.due("and needs no tolerance", x.leastTolerance(), Due.NOT_FOUND);
    }

    /** "Without bowls a note is silent: it is played, but has no bowl and no error." */
    private static void silentWithoutBowls() {
        GlassBowls x = Stories.bowlAt(5);
        x.note(1, 5);
        x.note(2, 5);
        x.note(3, 5);
        x.run(1);
        x.remove(0);
        D.due("played without bowls", x.run(1), 1);
        x.bowl(5, 1);
        x.run(1);
        int[] silent = {0, 1, 0};
        for (int i = 0; i < 3; i++) {
            D.due("played: " + i, x.noteOf(i, 3), 1);
            D.due("bowl of " + i, x.noteOf(i, 4), silent[i] == 1 ? Due.NOT_FOUND : 0);
            D.due("error of " + i, x.noteOf(i, 5), silent[i] == 1 ? Due.NOT_FOUND : 0);
            D.due("clean: " + i, x.noteOf(i, 6), silent[i] == 1 ? Due.NOT_FOUND : 1);
        }
        D.due("silent ones", x.count(6), 1);
        D.due("played ones", x.count(4), 3);
    }

    /** "What was played is kept with the note: the bowl, the error, and whether it was clean." */
    private static void whatWasPlayedIsKept() {
        GlassBowls x = Stories.bowlAt(1000);
        x.bowl(2000, 1000);
        x.note(2, 2010);
        x.run(2);
        x.pour(1, 1000);
        x.crack(1, 500);
        x.mark(1, 400);
        x.set(2, 0);
        x.set(3, 1);
        x.transpose(0, 0, 3990);
        x.remove(1);
        x.note(1, 5);
        x.run(600);
        D.due("the pitch is new", x.noteOf(1, 1), 6000);
        D.due("the bowl", x.noteOf(1, 4), 1);
        D.due("the error", x.noteOf(1, 5), -10);
        D.due("clean", x.noteOf(1, 6), 1);
        D.due("the new one has nothing of it", x.noteOf(0, 3), 0);
    }

    /** "When a note is removed, this goes with it." */
    private static void removedWithTheNote() {
        GlassBowls x = Stories.bowlAt(1000);
        x.note(1, 1000);
        x.note(2, 1500);
        x.run(2);
        x.drop(1);
        D.due("played ones", x.count(4), 1);
        D.due("clean ones", x.count(5), 1);
        D.due("the worst one", x.worst(0), 0);
        D.due("no other", x.worst(1), Due.NOT_FOUND);
        x.note(2, 1500);
        D.due("a new one in its place", x.noteOf(1, 3), 0);
        x.drop(0);
        D.due("no clean one is left", x.count(5), 0);
        D.due("no played one is left", x.count(4), 0);
    }
}
