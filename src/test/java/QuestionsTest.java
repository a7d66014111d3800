/** Promises 21 to 24: questions about what would be, by which nothing changes. */
public final class QuestionsTest {
    private static final int LEAST = Integer.MIN_VALUE;
    private static final int MOST = Integer.MAX_VALUE;
    private static final Due D = new Due("QuestionsTest");

    public static void main(String[] args) {
        promise21WouldBe();
        promise21WithFilling();
        promise22FirstFalse();
        promise22WithoutBowls();
        promise23LeastTolerance();
        promise23AboveTheSetting();
        promise24PitchAt();
        promise24WithFilling();
        nothingChanges();
        D.end();
    }

    private static void promise21WouldBe() {
        GlassBowls x = new GlassBowls();
        D.due("of no note", x.wouldBe(0), Due.INVALID);
        x.note(0, 100);
        x.note(60, 1000);
        x.note(120, 1000);
        D.due("without bowls", x.wouldBe(1), Due.NOT_FOUND);
        D.due("of the present, without bowls", x.wouldBe(0), Due.NOT_POSSIBLE);
        x.bowl(2000, 1000);
        x.pour(0, 1000);
        D.due("wouldBe(-1)", x.wouldBe(-1), Due.INVALID);
        D.due("wouldBe(3)", x.wouldBe(3), Due.INVALID);
        D.due("wouldBe(most)", x.wouldBe(MOST), Due.INVALID);
        D.due("wouldBe(least)", x.wouldBe(LEAST), Due.INVALID);
        D.due("of the present", x.wouldBe(0), Due.NOT_POSSIBLE);
        D.due("dried once", x.wouldBe(1), 2);
        D.due("dried twice", x.wouldBe(2), 4);
        x.run(60);
        D.due("it came", x.noteOf(1, 5), 2);
        D.due("a played one", x.wouldBe(1), Due.NOT_POSSIBLE);
        D.due("the same still", x.wouldBe(2), 4);
        x.run(1);
        x.note(61, 5);
        D.due("of the past, not played", x.wouldBe(2), Due.NOT_POSSIBLE);
    }

    private static void promise21WithFilling() {
        GlassBowls x = new GlassBowls();
        x.bowl(2000, 1000);
        x.mark(0, 500);
        x.set(0, 1);
        x.note(5, 2000);
        x.note(14, 2000);
        x.note(24, 2000);
        D.due("not filled", x.wouldBe(2), 0);
        x.set(3, 1);
        D.due("filled", x.wouldBe(0), -250);
        D.due("filled, then dried", x.wouldBe(1), -241);
        D.due("filled again", x.wouldBe(2), -250);
        D.due("and not poured", x.count(20), 0);
    }

    private static void promise22FirstFalse() {
        GlassBowls x = new GlassBowls();
        x.bowl(1000, 1);
        x.note(0, 6000);
        x.note(10, 1010);
        x.note(20, 990);
        D.due("all clean, the one at 0 is not to come", x.firstFalse(), Due.NOT_FOUND);
        x.note(30, 1011);
        x.note(40, 989);
        D.due("the first one", x.firstFalse(), 3);
        x.set(2, 9);
        D.due("the first one with 9", x.firstFalse(), 1);
        x.run(10);
        D.due("the first one to come", x.firstFalse(), 2);
        x.set(2, 11);
        D.due("none with 11", x.firstFalse(), Due.NOT_FOUND);
        x.set(2, 0);
        x.run(30);
        D.due("none is to come", x.firstFalse(), Due.NOT_FOUND);
        x.note(3600, 6000);
        D.due("the last second", x.firstFalse(), 5);
        GlassBowls y = new GlassBowls();
        y.bowl(1000, 1);
        y.note(1, 2000);
        D.due("note 0", y.firstFalse(), 0);
    }

    private static void promise22WithoutBowls() {
        GlassBowls x = new GlassBowls();
        x.note(10, 100);
        D.due("silent ones do not count", x.firstFalse(), Due.NOT_FOUND);
    }

    private static void promise23LeastTolerance() {
        GlassBowls x = new GlassBowls();
        x.note(10, 1000);
        D.due("without bowls", x.leastTolerance(), Due.NOT_FOUND);
        x.bowl(1000, 1);
        D.due("none is needed", x.leastTolerance(), 0);
        x.note(20, 1007);
        x.note(30, 1003);
        D.due("too low a bowl", x.leastTolerance(), 7);
        x.note(40, 992);
        D.due("too high a bowl", x.leastTolerance(), 8);
        x.run(20);
        x.drop(3);
        D.due("only those to come", x.leastTolerance(), 3);
        x.set(2, 3);
        D.due("with it all are clean", x.firstFalse(), Due.NOT_FOUND);
        x.set(2, 2);
        D.due("with less one is not", x.firstFalse(), 2);
        x.run(10);
        D.due("none is to come", x.leastTolerance(), Due.NOT_FOUND);
        x.note(30, 5000);
        D.due("one of the present", x.leastTolerance(), Due.NOT_FOUND);
    }

    private static void promise23AboveTheSetting() {
        GlassBowls x = new GlassBowls();
        x.bowl(0, 2400);
        x.pour(0, 1000);
        x.note(1, 6000);
        D.due("above 600, of note 0", x.leastTolerance(), 8400);
    }

    private static void promise24PitchAt() {
        GlassBowls x = new GlassBowls();
        D.due("of no bowl", x.pitchAt(0, 0), Due.INVALID);
        x.bowl(1000, 1000);
        x.pour(0, 1000);
        x.set(0, 10);
        D.due("pitchAt(1, 0)", x.pitchAt(1, 0), Due.INVALID);
        D.due("pitchAt(-1, 0)", x.pitchAt(-1, 0), Due.INVALID);
        D.due("pitchAt(0, -1)", x.pitchAt(0, -1), Due.INVALID);
        D.due("pitchAt(0, 3601)", x.pitchAt(0, 3601), Due.INVALID);
        D.due("pitchAt(0, most)", x.pitchAt(0, MOST), Due.INVALID);
        D.due("now", x.pitchAt(0, 0), 0);
        D.due("ahead of the drying", x.pitchAt(0, 9), 0);
        D.due("in the second of the drying", x.pitchAt(0, 10), 2);
        D.due("at the end: 360 drops less", x.pitchAt(0, 3600), 1000 - 409);
        x.run(10);
        D.due("in the past", x.pitchAt(0, 9), Due.INVALID);
        D.due("in the present", x.pitchAt(0, 10), 2);
    }

    private static void promise24WithFilling() {
        GlassBowls x = new GlassBowls();
        x.bowl(1000, 1000);
        x.mark(0, 500);
        x.set(3, 1);
        x.note(10, 1000);
        D.due("ahead of the note", x.pitchAt(0, 9), 1000);
        D.due("behind the filling", x.pitchAt(0, 10), 750);
        D.due("dried later", x.pitchAt(0, 60), 1000 - 249);
        x.drop(0);
        D.due("without a note", x.pitchAt(0, 60), 1000);
        x.note(0, 1000);
        D.due("the one at 0 fills nothing", x.pitchAt(0, 0), 1000);
        D.due("nor later", x.pitchAt(0, 100), 1000);
    }

    private static void nothingChanges() {
        GlassBowls x = new GlassBowls();
        x.bowl(1000, 1000);
        x.mark(0, 500);
        x.set(3, 1);
        x.note(10, 1000);
        x.wouldBe(0);
        x.firstFalse();
        x.leastTolerance();
        x.pitchAt(0, 3600);
        D.due("states", x.count(7), 4);
        D.due("time", x.count(0), 0);
        D.due("played", x.count(4), 0);
        D.due("level", x.bowlOf(0, 2), 0);
        D.due("poured", x.count(20), 0);
        D.due("bowl of the note", x.noteOf(0, 4), Due.NOT_FOUND);
        D.due("it is played then", x.run(10), 1);
    }
}
