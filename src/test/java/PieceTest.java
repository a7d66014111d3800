/** Promises 14 to 20: the piece, how it is played, and what is kept of that. */
public final class PieceTest {
    private static final int LEAST = Integer.MIN_VALUE;
    private static final int MOST = Integer.MAX_VALUE;
    private static final Due D = new Due("PieceTest");

    public static void main(String[] args) {
        promise14Note();
        promise14Limit();
        promise14NoteOfThePast();
        promise15Drop();
        promise15PlayedGoesWithIt();
        promise16Transpose();
        promise16PlayedStays();
        promise17NoteOf();
        promise17Phrases();
        promise18Run();
        promise18DryingComesFirst();
        promise18DryingNeedsWater();
        promise18Filling();
        promise18FillingByOneDrop();
        promise18FillingAboveTheCrack();
        promise18ToleranceAsItIsThen();
        promise18NearestBowl();
        promise19Rewind();
        promise20Worst();
        promise3NotesKeepTheirBowl();
        D.end();
    }

    private static void promise14Note() {
        GlassBowls x = new GlassBowls();
        int[][] wrong = {{-1, 0}, {3601, 0}, {0, -1}, {0, 6001}, {LEAST, 0}, {MOST, 0}, {0, LEAST}, {0, MOST}};
        for (int[] w : wrong) {
            D.due("note(" + w[0] + ", " + w[1] + ")", x.note(w[0], w[1]), Due.INVALID);
        }
        D.due("note(3600, 6000)", x.note(3600, 6000), 0);
        D.due("note(0, 0)", x.note(0, 0), 0);
        D.due("note(100, 7)", x.note(100, 7), 1);
        D.due("note(50, 8)", x.note(50, 8), 1);
        D.due("note(100, 9) again", x.note(100, 9), Due.NOT_POSSIBLE);
        D.due("note(3600, 9) again", x.note(3600, 9), Due.NOT_POSSIBLE);
        D.due("note(0, 9) again", x.note(0, 9), Due.NOT_POSSIBLE);
        D.due("note(100, 6001) again", x.note(100, 6001), Due.INVALID);
        int[] times = {0, 50, 100, 3600};
        int[] pitches = {0, 8, 7, 6000};
        for (int i = 0; i < 4; i++) {
            D.due("time of " + i, x.noteOf(i, 0), times[i]);
            D.due("pitch of " + i, x.noteOf(i, 1), pitches[i]);
        }
        D.due("notes", x.count(2), 4);
    }

    private static void promise14Limit() {
        GlassBowls x = new GlassBowls();
        for (int i = 0; i < 40; i++) {
            D.due("note " + i, x.note(3600 - 2 * i, i), 0);
        }
        D.due("one more", x.note(1, 0), Due.LIMIT);
        D.due("one more at a taken time", x.note(3600, 0), Due.NOT_POSSIBLE);
        D.due("one more that is wrong", x.note(3601, 0), Due.INVALID);
        D.due("notes", x.count(2), 40);
        D.due("the first one", x.noteOf(0, 1), 39);
        D.due("the last one", x.noteOf(39, 1), 0);
        x.drop(20);
        D.due("room again", x.note(1, 0), 0);
    }

    private static void promise14NoteOfThePast() {
        GlassBowls x = new GlassBowls();
        x.bowl(100, 1);
        x.run(20);
        x.note(20, 100);
        x.note(19, 100);
        x.note(0, 100);
        x.note(21, 100);
        D.due("only the one to come", x.run(10), 1);
        D.due("the one of the past", x.noteOf(1, 3), 0);
        x.rewind();
        D.due("all but the one at 0", x.run(30), 3);
        D.due("the one at 0", x.noteOf(0, 3), 0);
        D.due("the first played one", x.noteOf(1, 3), 1);
    }

    private static void promise15Drop() {
        GlassBowls x = new GlassBowls();
        D.due("drop(0) of none", x.drop(0), Due.INVALID);
        x.note(10, 1);
        x.note(20, 2);
        x.note(30, 3);
        D.due("drop(-1)", x.drop(-1), Due.INVALID);
        D.due("drop(3)", x.drop(3), Due.INVALID);
        D.due("drop(most)", x.drop(MOST), Due.INVALID);
        D.due("drop(1)", x.drop(1), 2);
        D.due("the later one", x.noteOf(1, 0), 30);
        D.due("its pitch", x.noteOf(1, 1), 3);
        D.due("the earlier one", x.noteOf(0, 0), 10);
        D.due("drop the last one", x.drop(1), 1);
        D.due("drop the only one", x.drop(0), 0);
        D.due("none is left", x.noteOf(0, 0), Due.INVALID);
    }

    private static void promise15PlayedGoesWithIt() {
        GlassBowls x = new GlassBowls();
        x.bowl(100, 1);
        x.bowl(200, 1);
        x.note(1, 100);
        x.note(2, 230);
        x.note(3, 90);
        x.run(5);
        x.drop(0);
        D.due("played", x.count(4), 2);
        D.due("bowl of the later one", x.noteOf(0, 4), 1);
        D.due("its error", x.noteOf(0, 5), -30);
        D.due("whether it was clean", x.noteOf(0, 6), 0);
        D.due("error of the last one", x.noteOf(1, 5), 10);
        x.note(1, 100);
        D.due("a new one at its time was not played", x.noteOf(0, 3), 0);
        D.due("the others still were", x.noteOf(1, 3), 1);
        D.due("and keep their bowls", x.noteOf(1, 4), 1);
    }

    private static void promise16Transpose() {
        GlassBowls x = new GlassBowls();
        D.due("of none", x.transpose(0, 0, 1), Due.INVALID);
        for (int i = 0; i < 4; i++) {
            x.note(10 * i, 1000 * i + 500);
        }
        int[][] wrong = {{-1, 2, 1}, {0, 4, 1}, {2, 1, 1}, {0, 1, 0}, {0, 1, 6001}, {0, 1, -6001}, {4, 4, 1},
            {0, 1, LEAST}, {0, 1, MOST}, {LEAST, MOST, 1}, {MOST, LEAST, 1}};
        for (int[] w : wrong) {
            D.due("transpose(" + w[0] + ", " + w[1] + ", " + w[2] + ")", x.transpose(w[0], w[1], w[2]), Due.INVALID);
        }
        D.due("one would be below 0", x.transpose(0, 3, -501), Due.NOT_POSSIBLE);
        D.due("one would be above 6000", x.transpose(0, 3, 2501), Due.NOT_POSSIBLE);
        D.due("6000 is in the range, of cents", x.transpose(1, 2, 6000), Due.NOT_POSSIBLE);
        D.due("-6000 is in the range, of cents", x.transpose(1, 2, -6000), Due.NOT_POSSIBLE);
        D.due("to 0", x.transpose(0, 3, -500), 4);
        D.due("to 6000", x.transpose(1, 3, 3000), 3);
        int[] pitches = {0, 4000, 5000, 6000};
        for (int i = 0; i < 4; i++) {
            D.due("pitch of " + i, x.noteOf(i, 1), pitches[i]);
        }
        D.due("one alone", x.transpose(2, 2, 1), 1);
        D.due("it alone: before", x.noteOf(1, 1), 4000);
        D.due("it alone", x.noteOf(2, 1), 5001);
        D.due("the whole range", x.transpose(0, 0, 6000), 1);
        D.due("the whole range back", x.transpose(0, 0, -6000), 1);
    }

    private static void promise16PlayedStays() {
        GlassBowls x = new GlassBowls();
        x.bowl(100, 1);
        x.note(1, 90);
        x.run(1);
        x.transpose(0, 0, 500);
        D.due("the pitch", x.noteOf(0, 1), 590);
        D.due("it was played", x.noteOf(0, 3), 1);
        D.due("the error stays", x.noteOf(0, 5), 10);
        D.due("clean stays", x.noteOf(0, 6), 1);
        D.due("the bowl stays", x.noteOf(0, 4), 0);
    }

    private static void promise17NoteOf() {
        GlassBowls x = new GlassBowls();
        D.due("of none", x.noteOf(0, 0), Due.INVALID);
        x.note(5, 100);
        x.run(5);
        x.bowl(70, 1);
        x.bowl(190, 1);
        x.note(6, 100);
        x.note(7, 200);
        x.note(99, 300);
        x.run(5);
        int[][] due = {
            {5, 100, 0, 1, Due.NOT_FOUND, Due.NOT_FOUND, Due.NOT_FOUND},
            {6, 100, 0, 1, 0, -30, 0},
            {7, 200, 0, 1, 1, -10, 1},
            {99, 300, 1, 0, Due.NOT_FOUND, Due.NOT_FOUND, Due.NOT_FOUND}};
        for (int note = 0; note < due.length; note++) {
            for (int what = 0; what < 7; what++) {
                D.due("noteOf(" + note + ", " + what + ")", x.noteOf(note, what), due[note][what]);
            }
        }
        int[] wrong = {-1, 7, LEAST, MOST};
        for (int w : wrong) {
            D.due("noteOf(0, " + w + ")", x.noteOf(0, w), Due.INVALID);
            D.due("noteOf(" + w + ", 4)", x.noteOf(w, 4), Due.INVALID);
        }
        D.due("noteOf(4, 4)", x.noteOf(4, 4), Due.INVALID);
    }

    private static void promise17Phrases() {
        GlassBowls x = new GlassBowls();
        int[] times = {3, 12, 22, 31, 42};
        for (int time : times) {
            x.note(time, 100);
        }
        int[] phrases = {0, 0, 1, 1, 2};
        for (int i = 0; i < 5; i++) {
            D.due("phrase of " + i, x.noteOf(i, 2), phrases[i]);
        }
        x.drop(1);
        D.due("phrase of the second one then", x.noteOf(1, 2), 1);
        x.set(1, 600);
        D.due("one phrase", x.noteOf(3, 2), 0);
        x.set(1, 1);
        D.due("every note one", x.noteOf(3, 2), 3);
        x.note(1, 100);
        D.due("one more ahead", x.noteOf(4, 2), 4);
    }

    private static void promise18Run() {
        GlassBowls x = new GlassBowls();
        int[] wrong = {0, -1, 601, LEAST, MOST};
        for (int seconds : wrong) {
            D.due("run(" + seconds + ")", x.run(seconds), Due.INVALID);
        }
        x.note(1, 100);
        x.note(600, 100);
        x.note(601, 100);
        x.note(3600, 100);
        D.due("up to 600, that too", x.run(600), 2);
        D.due("time", x.count(0), 600);
        D.due("601", x.run(1), 1);
        D.due("none", x.run(599), 0);
        for (int i = 0; i < 3; i++) {
            D.due("on", x.run(600), 0);
        }
        D.due("time", x.count(0), 3000);
        x.run(1);
        D.due("one too many", x.run(600), Due.LIMIT);
        D.due("wrong rather than too many", x.run(601), Due.INVALID);
        D.due("the time stays", x.count(0), 3001);
        D.due("the last one", x.run(599), 1);
        D.due("at the end", x.run(1), Due.LIMIT);
        D.due("all were played", x.count(4), 4);
    }

    private static void promise18DryingComesFirst() {
        GlassBowls x = new GlassBowls();
        x.bowl(1000, 1000);
        x.pour(0, 1000);
        x.set(0, 10);
        x.set(2, 0);
        x.note(9, 0);
        x.note(10, 0);
        x.note(11, 0);
        x.run(9);
        D.due("not dried at 9", x.bowlOf(0, 2), 1000);
        x.run(1);
        D.due("dried at 10", x.bowlOf(0, 2), 999);
        D.due("one account", x.count(22), 1);
        D.due("error ahead of it", x.noteOf(0, 5), 0);
        x.run(1);
        D.due("error in this second", x.noteOf(1, 5), 1000 - 998);
        D.due("error behind it", x.noteOf(2, 5), 1000 - 998);
        x.run(29);
        D.due("at 20, 30 and 40", x.bowlOf(0, 2), 996);
        x.set(0, 41);
        x.run(1);
        D.due("multiples of the time, not of what went by", x.bowlOf(0, 2), 995);
    }

    private static void promise18DryingNeedsWater() {
        GlassBowls x = new GlassBowls();
        x.bowl(1000, 1000);
        x.bowl(1000, 1000);
        x.pour(0, 3);
        x.set(0, 1);
        x.run(2);
        D.due("level", x.bowlOf(0, 2), 1);
        x.run(100);
        D.due("empty", x.bowlOf(0, 2), 0);
        D.due("dried", x.count(22), 3);
        D.due("in the bowls", x.count(21), 0);
    }

    private static void promise18Filling() {
        GlassBowls x = new GlassBowls();
        x.bowl(1000, 1000);
        x.bowl(3000, 1000);
        x.mark(0, 500);
        x.pour(1, 300);
        x.mark(1, 200);
        x.set(0, 4);
        x.note(10, 1000);
        x.note(19, 1000);
        x.note(29, 1000);
        x.run(9);
        D.due("not filled without a note", x.bowlOf(0, 2), 0);
        x.run(1);
        D.due("not filled if filling is 0", x.bowlOf(0, 2), 0);
        x.rewind();
        x.set(3, 1);
        x.run(10);
        D.due("filled at the first phrase", x.bowlOf(0, 2), 500);
        D.due("before it sounds", x.noteOf(0, 5), -250);
        D.due("a bowl above its mark stays", x.bowlOf(1, 2), 300 - 4);
        D.due("poured", x.count(20), 800);
        x.run(9);
        D.due("not filled within a phrase", x.bowlOf(0, 2), 498);
        x.run(9);
        D.due("nor between notes", x.bowlOf(0, 2), 495);
        x.run(1);
        D.due("filled again", x.bowlOf(0, 2), 500);
        D.due("poured then", x.count(20), 805);
        x.drop(2);
        x.rewind();
        x.set(0, 600);
        x.spill(0, 100);
        x.drop(0);
        x.run(19);
        D.due("the first note begins a phrase", x.bowlOf(0, 2), 500);
    }

    private static void promise18FillingByOneDrop() {
        GlassBowls x = new GlassBowls();
        x.bowl(1000, 1000);
        x.pour(0, 99);
        x.mark(0, 100);
        x.set(3, 1);
        x.note(1, 1000);
        x.run(1);
        D.due("level", x.bowlOf(0, 2), 100);
        D.due("poured", x.count(20), 100);
    }

    private static void promise18FillingAboveTheCrack() {
        GlassBowls x = new GlassBowls();
        x.bowl(1000, 1000);
        x.mark(0, 900);
        x.crack(0, 500);
        x.set(3, 1);
        x.note(1, 1000);
        x.note(20, 1000);
        x.run(1);
        D.due("poured", x.count(20), 900);
        D.due("lost", x.count(23), 400);
        D.due("level", x.bowlOf(0, 2), 500);
        D.due("error", x.noteOf(0, 5), -250);
        x.run(19);
        D.due("poured again, though nothing stays", x.count(20), 1300);
        D.due("lost again", x.count(23), 800);
    }

    private static void promise18ToleranceAsItIsThen() {
        GlassBowls x = new GlassBowls();
        x.bowl(1000, 1);
        x.note(1, 990);
        x.note(2, 1010);
        x.note(3, 989);
        x.note(4, 1011);
        x.note(5, 1500);
        x.note(6, 1000);
        x.run(4);
        int[] clean = {1, 1, 0, 0};
        for (int i = 0; i < 4; i++) {
            D.due("clean " + i, x.noteOf(i, 6), clean[i]);
        }
        x.set(2, 600);
        x.run(1);
        D.due("clean with 600", x.noteOf(4, 6), 1);
        x.set(2, 0);
        x.run(1);
        D.due("clean with 0", x.noteOf(5, 6), 1);
        D.due("the first one stays clean", x.noteOf(0, 6), 1);
        D.due("the third one stays false", x.noteOf(2, 6), 0);
        D.due("clean ones", x.count(5), 4);
    }

    private static void promise18NearestBowl() {
        GlassBowls x = new GlassBowls();
        x.bowl(1000, 1);
        x.bowl(1100, 1);
        x.bowl(1000, 1);
        x.note(1, 1050);
        x.note(2, 1051);
        x.note(3, 0);
        x.note(4, 6000);
        x.run(4);
        int[] bowls = {0, 1, 0, 1};
        int[] errors = {-50, 49, 1000, -4900};
        for (int i = 0; i < 4; i++) {
            D.due("bowl of " + i, x.noteOf(i, 4), bowls[i]);
            D.due("error of " + i, x.noteOf(i, 5), errors[i]);
        }
    }

    private static void promise19Rewind() {
        GlassBowls x = new GlassBowls();
        D.due("rewind at 0", x.rewind(), 0);
        x.bowl(1000, 1);
        x.pour(0, 10);
        x.set(0, 1);
        x.note(2, 1000);
        x.note(3, 1000);
        x.note(4, 0);
        x.run(5);
        D.due("rewind", x.rewind(), 5);
        D.due("time", x.count(0), 0);
        D.due("played", x.count(4), 0);
        D.due("not played any more", x.noteOf(0, 3), 0);
        D.due("no error", x.noteOf(0, 5), Due.NOT_FOUND);
        D.due("none is the worst", x.worst(0), Due.NOT_FOUND);
        D.due("the water stays", x.bowlOf(0, 2), 5);
        D.due("the accounts stay", x.count(22), 5);
        D.due("they are played again", x.run(3), 2);
    }

    private static void promise20Worst() {
        GlassBowls x = new GlassBowls();
        x.note(1, 0);
        x.run(1);
        x.bowl(1000, 1);
        int[] pitches = {1005, 970, 1030, 1000, 1029, 2000};
        for (int i = 0; i < pitches.length; i++) {
            x.note(2 + i, pitches[i]);
        }
        D.due("worst(-1)", x.worst(-1), Due.INVALID);
        D.due("worst(least)", x.worst(LEAST), Due.INVALID);
        D.due("silent ones are left out", x.worst(0), Due.NOT_FOUND);
        x.run(5);
        int[] order = {2, 3, 5, 1, 4};
        for (int place = 0; place < order.length; place++) {
            D.due("worst(" + place + ")", x.worst(place), order[place]);
        }
        D.due("not so many", x.worst(5), Due.NOT_FOUND);
        D.due("worst(most)", x.worst(MOST), Due.NOT_FOUND);
        x.drop(0);
        D.due("note 0 is counted", x.worst(4), 3);
        D.due("note 0 in the middle", x.worst(3), 0);
        x.drop(1);
        x.drop(1);
        x.drop(2);
        D.due("note 0 is the worst", x.worst(0), 0);
    }

    private static void promise3NotesKeepTheirBowl() {
        GlassBowls x = new GlassBowls();
        x.bowl(1000, 1);
        x.bowl(2000, 1);
        x.note(1, 2000);
        x.run(1);
        x.remove(0);
        D.due("the number as it was", x.noteOf(0, 4), 1);
        x.remove(0);
        D.due("without bowls too", x.noteOf(0, 4), 1);
        D.due("it is not silent by this", x.count(6), 0);
    }
}
