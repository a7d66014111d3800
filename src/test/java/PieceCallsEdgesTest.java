/** Promises 14 to 20: each sentence that names a boundary case, with a test of its own. */
public final class PieceCallsEdgesTest {
    private static final Due D = new Due("PieceCallsEdgesTest");

    public static void main(String[] args) {
        noteReturnsItsNumber();
        noteAmongPlayedOnes();
        noteWhenThereAreForty();
        dropTheFirstTheLastTheOnly();
        dropJoinsAndBeginsPhrases();
        dropOfPlayedNotes();
        droppedNotesDoNothingMore();
        transposeToTheEnds();
        transposeOnlyThose();
        transposeOneOrAll();
        transposePlayedOrNot();
        noteOfEveryKind();
        noteOfBeforeAndAfterItsSecond();
        runUpToTheEnd();
        runByOneAndByTheMost();
        runReturnsHowManyArePlayed();
        rewindAtBothEnds();
        rewindPlaysAllAgain();
        worstOfForty();
        worstOfEqualOnes();
        worstLeavesOthersOut();
        D.end();
    }

    /** "Returns its number" */
    private static void noteReturnsItsNumber() {
        GlassBowls x = new GlassBowls();
        D.due("the first one", x.note(1800, 3000), 0);
        D.due("at the first time", x.note(0, 0), 0);
        D.due("at the last time", x.note(3600, 6000), 2);
        D.due("one ahead of the last time", x.note(3599, 1), 2);
        D.due("one behind the first time", x.note(1, 2), 1);
        int[] times = {0, 1, 1800, 3599, 3600};
        int[] pitches = {0, 2, 3000, 1, 6000};
        for (int i = 0; i < 5; i++) {
            D.due("time of " + i, x.noteOf(i, 0), times[i]);
            D.due("pitch of " + i, x.noteOf(i, 1), pitches[i]);
        }
    }

    /** A note that is added takes nothing of what was played from the others. */
    private static void noteAmongPlayedOnes() {
        GlassBowls x = Stories.bowlAt(1000);
        x.bowl(2000, 1);
        x.note(10, 1003);
        x.note(20, 2040);
        x.run(20);
        D.due("between them", x.note(15, 5), 1);
        D.due("ahead of them", x.note(5, 6), 0);
        D.due("behind them", x.note(25, 7), 4);
        int[] played = {0, 1, 0, 1, 0};
        int[] bowls = {Due.NOT_FOUND, 0, Due.NOT_FOUND, 1, Due.NOT_FOUND};
        int[] errors = {Due.NOT_FOUND, -3, Due.NOT_FOUND, -40, Due.NOT_FOUND};
        int[] clean = {Due.NOT_FOUND, 1, Due.NOT_FOUND, 0, Due.NOT_FOUND};
        for (int i = 0; i < 5; i++) {
            D.due("played: " + i, x.noteOf(i, 3), played[i]);
            D.due("bowl of " + i, x.noteOf(i, 4), bowls[i]);
            D.due("error of " + i, x.noteOf(i, 5), errors[i]);
            D.due("clean: " + i, x.noteOf(i, 6), clean[i]);
        }
    }

    /** "NOT_POSSIBLE if there is one at this time; LIMIT_REACHED if there are 40." */
    private static void noteWhenThereAreForty() {
        GlassBowls x = new GlassBowls();
        for (int i = 0; i < 39; i++) {
            x.note(90 * i, 5);
        }
        D.due("a 40th at a taken time", x.note(90, 5), Due.NOT_POSSIBLE);
        D.due("a 40th", x.note(3600, 5), 39);
        D.due("a 41st", x.note(3599, 5), Due.LIMIT);
        D.due("a 41st at the first time", x.note(0, 5), Due.NOT_POSSIBLE);
        D.due("a 41st at the last time", x.note(3600, 5), Due.NOT_POSSIBLE);
        D.due("a 41st, wrong", x.note(3601, 5), Due.INVALID);
        D.due("the notes", x.count(2), 40);
        x.undo();
        D.due("the 40th again", x.note(3599, 5), 39);
    }

    private static GlassBowls fortyNotes() {
        GlassBowls x = new GlassBowls();
        for (int i = 0; i < 40; i++) {
            x.note(20 * i, 100 + i);
        }
        return x;
    }

    private static void notesAre(GlassBowls x, int first, int without) {
        int notes = x.count(2);
        for (int i = 0; i < notes; i++) {
            int which = first + i < without ? first + i : first + i + 1;
            D.due("time of " + i, x.noteOf(i, 0), 20 * which);
            D.due("pitch of " + i, x.noteOf(i, 1), 100 + which);
        }
        D.due("no note behind the last one", x.noteOf(notes, 0), Due.INVALID);
    }

    /** "the numbers of the later ones decrease by 1", "Returns how many notes remain" */
    private static void dropTheFirstTheLastTheOnly() {
        GlassBowls x = fortyNotes();
        D.due("the last of forty", x.drop(39), 39);
        notesAre(x, 0, 39);
        D.due("it is there no more", x.drop(39), Due.INVALID);
        GlassBowls y = fortyNotes();
        D.due("the first of forty", y.drop(0), 39);
        notesAre(y, 1, 40);
        D.due("one between", y.drop(19), 38);
        notesAre(y, 1, 20);
        for (int left = 37; left >= 0; left--) {
            D.due("on", y.drop(left), left);
        }
        D.due("of none", y.drop(0), Due.INVALID);
    }

    private static void dropJoinsAndBeginsPhrases() {
        GlassBowls x = new GlassBowls();
        x.note(0, 1);
        x.note(10, 2);
        x.note(19, 3);
        D.due("phrases", x.count(3), 2);
        x.drop(0);
        D.due("the first phrase is gone", x.count(3), 1);
        D.due("the note of the second one is of the first one now", x.noteOf(1, 2), 0);
        x.note(28, 4);
        x.drop(1);
        D.due("the time between is greater", x.noteOf(1, 2), 1);
    }

    /** "When a note is removed, this goes with it": and what was played of the later ones goes on with these. */
    private static void dropOfPlayedNotes() {
        GlassBowls x = Stories.bowlAt(1000);
        x.bowl(2000, 1);
        x.bowl(3000, 1);
        int[] pitches = {1001, 2020, 3003, 1040};
        for (int i = 0; i < 4; i++) {
            x.note(i + 1, pitches[i]);
        }
        x.run(4);
        x.drop(0);
        int[] bowls = {1, 2, 0};
        int[] errors = {-20, -3, -40};
        int[] clean = {0, 1, 0};
        for (int i = 0; i < 3; i++) {
            D.due("bowl of the later one " + i, x.noteOf(i, 4), bowls[i]);
            D.due("error of the later one " + i, x.noteOf(i, 5), errors[i]);
            D.due("clean: the later one " + i, x.noteOf(i, 6), clean[i]);
        }
        D.due("the worst", x.worst(0), 2);
        x.drop(2);
        D.due("the worst then", x.worst(0), 0);
        x.drop(1);
        D.due("the only one", x.worst(0), 0);
        D.due("no other", x.worst(1), Due.NOT_FOUND);
    }

    /** A removed note is neither played nor to come, also when the time is set back ahead of it. */
    private static void droppedNotesDoNothingMore() {
        GlassBowls x = Stories.bowlAt(1000);
        x.note(5, 2000);
        x.note(6, 3000);
        x.drop(1);
        D.due("the other one is played", x.run(10), 1);
        x.drop(0);
        D.due("nothing was played", x.count(4), 0);
        D.due("nothing is the worst", x.worst(0), Due.NOT_FOUND);
        x.rewind();
        D.due("nothing would be false", x.firstFalse(), Due.NOT_FOUND);
        D.due("nothing is to come", x.leastTolerance(), Due.NOT_FOUND);
        D.due("no phrase", x.count(3), 0);
        D.due("nothing is played", x.run(10), 0);
    }

    /** "NOT_POSSIBLE if one of them would be out of 0 to 6000." */
    private static void transposeToTheEnds() {
        GlassBowls x = new GlassBowls();
        x.note(1, 10);
        x.note(2, 3000);
        x.note(3, 5990);
        D.due("one below 0", x.transpose(0, 2, -11), Due.NOT_POSSIBLE);
        D.due("one above 6000", x.transpose(0, 2, 11), Due.NOT_POSSIBLE);
        D.due("nothing was transposed", x.noteOf(1, 1), 3000);
        D.due("just 0", x.transpose(0, 2, -10), 3);
        D.due("just 6000", x.transpose(0, 2, 20), 3);
        D.due("the first one", x.noteOf(0, 1), 20);
        D.due("the last one", x.noteOf(2, 1), 6000);
        D.due("one more", x.transpose(2, 2, 1), Due.NOT_POSSIBLE);
        D.due("from 6000 to 0", x.transpose(2, 2, -6000), 1);
        D.due("one less", x.transpose(2, 2, -1), Due.NOT_POSSIBLE);
        D.due("from 0 to 6000", x.transpose(2, 2, 6000), 1);
        D.due("6000 from 20", x.transpose(0, 0, 6000), Due.NOT_POSSIBLE);
    }

    /** "the notes from one to another one": only these are asked whether they would be out, and only these change. */
    private static void transposeOnlyThose() {
        GlassBowls x = new GlassBowls();
        int[] pitches = {0, 3000, 3000, 6000};
        for (int i = 0; i < 4; i++) {
            x.note(i, pitches[i]);
        }
        D.due("the middle ones up", x.transpose(1, 2, 3000), 2);
        D.due("the middle ones down", x.transpose(1, 2, -6000), 2);
        int[] then = {0, 0, 0, 6000};
        for (int i = 0; i < 4; i++) {
            D.due("pitch of " + i, x.noteOf(i, 1), then[i]);
        }
        D.due("with the last one", x.transpose(1, 3, 1), Due.NOT_POSSIBLE);
        D.due("with the first one", x.transpose(0, 1, -1), Due.NOT_POSSIBLE);
        D.due("the last one alone", x.transpose(3, 3, -1), 1);
        D.due("the first ones", x.transpose(0, 2, 1), 3);
    }

    /** "Returns how many notes are transposed" */
    private static void transposeOneOrAll() {
        GlassBowls x = fortyNotes();
        D.due("all", x.transpose(0, 39, -100), 40);
        D.due("all but the first", x.transpose(1, 39, 1), 39);
        D.due("all but the last", x.transpose(0, 38, 1), 39);
        D.due("the first", x.transpose(0, 0, 1), 1);
        D.due("the last", x.transpose(39, 39, 1), 1);
        D.due("to one that is not", x.transpose(0, 40, 1), Due.INVALID);
        D.due("from the last to the first", x.transpose(39, 0, 1), Due.INVALID);
        D.due("by 0", x.transpose(0, 39, 0), Due.INVALID);
        D.due("the first one's pitch", x.noteOf(0, 1), 2);
        D.due("the second one's pitch", x.noteOf(1, 1), 3);
        D.due("the last one's pitch", x.noteOf(39, 1), 41);
    }

    /** "played or not (what was played stays)" */
    private static void transposePlayedOrNot() {
        GlassBowls x = Stories.bowlAt(1000);
        x.note(1, 1000);
        x.note(2, 1000);
        x.run(1);
        D.due("both", x.transpose(0, 1, 50), 2);
        D.due("the played one's pitch", x.noteOf(0, 1), 1050);
        D.due("its error stays", x.noteOf(0, 5), 0);
        D.due("it stays clean", x.noteOf(0, 6), 1);
        x.run(1);
        D.due("the other one is played as it is now", x.noteOf(1, 5), -50);
    }

    /** "NOT_FOUND for 4 to 6 if it was not played, or was silent." */
    private static void noteOfEveryKind() {
        GlassBowls x = Stories.bowlAt(1000);
        x.note(0, 1);
        x.note(5, 1010);
        x.note(6, 1011);
        x.note(7, 1000);
        x.note(600, 1000);
        x.run(6);
        x.remove(0);
        x.run(1);
        int none = Due.NOT_FOUND;
        int[][] due = {{0, 1, 0, 0, none, none, none}, {5, 1010, 0, 1, 0, -10, 1}, {6, 1011, 0, 1, 0, -11, 0},
            {7, 1000, 0, 1, none, none, none}, {600, 1000, 1, 0, none, none, none}};
        for (int note = 0; note < due.length; note++) {
            for (int what = 0; what <= 6; what++) {
                D.due("noteOf(" + note + ", " + what + ")", x.noteOf(note, what), due[note][what]);
            }
            D.due("noteOf(" + note + ", 7)", x.noteOf(note, 7), Due.INVALID);
            D.due("noteOf(" + note + ", -1)", x.noteOf(note, -1), Due.INVALID);
        }
    }

    /** "3: 1 if it was played, otherwise 0" */
    private static void noteOfBeforeAndAfterItsSecond() {
        GlassBowls x = Stories.bowlAt(1000);
        x.note(10, 1000);
        x.run(9);
        D.due("one second ahead", x.noteOf(0, 3), 0);
        D.due("no error yet", x.noteOf(0, 5), Due.NOT_FOUND);
        x.run(1);
        D.due("in its second", x.noteOf(0, 3), 1);
        x.undo();
        D.due("taken back", x.noteOf(0, 3), 0);
        x.run(600);
        D.due("long ago", x.noteOf(0, 3), 1);
        x.rewind();
        D.due("set back", x.noteOf(0, 3), 0);
    }

    private static GlassBowls at(int time) {
        GlassBowls x = new GlassBowls();
        for (int left = time; left > 0; left -= 600) {
            x.run(Math.min(left, 600));
        }
        return x;
    }

    /** "LIMIT_REACHED if the time would be greater than 3600." */
    private static void runUpToTheEnd() {
        int[][] runs = {{3000, 600, 3600}, {3001, 600, 3001}, {3001, 599, 3600}, {3599, 1, 3600}, {3599, 2, 3599},
            {3600, 1, 3600}, {3600, 600, 3600}, {2999, 600, 3599}};
        for (int[] r : runs) {
            GlassBowls x = at(r[0]);
            D.due("run(" + r[1] + ") at " + r[0], x.run(r[1]), r[2] == r[0] ? Due.LIMIT : 0);
            D.due("the time then", x.count(0), r[2]);
        }
        D.due("601 at the end", at(3600).run(601), Due.INVALID);
        D.due("the ends of int at the end", at(3600).run(Integer.MAX_VALUE), Due.INVALID);
    }

    /** "seconds: 1 to 600" */
    private static void runByOneAndByTheMost() {
        GlassBowls x = Stories.bowlWith(5, 1, 1000);
        x.set(0, 1);
        x.run(1);
        D.due("one second", x.bowlOf(0, 2), 999);
        x.run(600);
        D.due("600 seconds", x.bowlOf(0, 2), 399);
        D.due("the time", x.count(0), 601);
        D.due("none", x.run(0), Due.INVALID);
        D.due("one too many", x.run(601), Due.INVALID);
        D.due("the time stays", x.count(0), 601);
    }

    /** "Returns how many notes are played": of all forty, with one in each second, or none. */
    private static void runReturnsHowManyArePlayed() {
        GlassBowls x = new GlassBowls();
        for (int i = 1; i <= 40; i++) {
            x.note(i, 5);
        }
        D.due("the first one", x.run(1), 1);
        D.due("the others", x.run(39), 39);
        D.due("none", x.run(600), 0);
        x.rewind();
        D.due("all at once, silent ones too", x.run(600), 40);
        GlassBowls y = new GlassBowls();
        y.note(600, 5);
        y.note(601, 5);
        D.due("up to the end of the run", y.run(600), 1);
        D.due("behind it", y.run(600), 1);
    }

    /** "Returns the time that it was." */
    private static void rewindAtBothEnds() {
        GlassBowls x = at(3600);
        D.due("at the end", x.rewind(), 3600);
        D.due("the time then", x.count(0), 0);
        D.due("at 0", x.rewind(), 0);
        D.due("the time goes on", x.run(600), 0);
        D.due("at 600", x.rewind(), 600);
        x.undo();
        D.due("at 600 again", x.count(0), 600);
    }

    /** "notes are not played any more; the water stays" */
    private static void rewindPlaysAllAgain() {
        GlassBowls x = Stories.bowlWith(1000, 1000, 1000);
        x.note(60, 0);
        x.run(60);
        D.due("its error", x.noteOf(0, 5), 2);
        x.rewind();
        D.due("not played", x.count(4), 0);
        D.due("not clean", x.count(5), 0);
        D.due("not the worst", x.worst(0), Due.NOT_FOUND);
        D.due("the water stays", x.bowlOf(0, 2), 999);
        D.due("the account stays", x.count(22), 1);
        D.due("played again", x.run(60), 1);
        D.due("its error then", x.noteOf(0, 5), 4);
    }

    /** "place: 0 for the first one, and so on", "NOT_FOUND if there are not so many" */
    private static void worstOfForty() {
        GlassBowls x = Stories.bowlAt(3000);
        for (int i = 0; i < 40; i++) {
            x.note(i + 1, 3000 + (i % 2 == 0 ? i : -i));
        }
        D.due("none was played yet", x.worst(0), Due.NOT_FOUND);
        x.run(40);
        for (int place = 0; place < 40; place++) {
            D.due("worst(" + place + ")", x.worst(place), 39 - place);
        }
        D.due("worst(40)", x.worst(40), Due.NOT_FOUND);
        D.due("worst(41)", x.worst(41), Due.NOT_FOUND);
        D.due("the greatest int", x.worst(Integer.MAX_VALUE), Due.NOT_FOUND);
        D.due("worst(-1)", x.worst(-1), Due.INVALID);
        D.due("the least int", x.worst(Integer.MIN_VALUE), Due.INVALID);
    }

    /** "by the size of its error: the greatest first, of several the lowest one in number" */
    private static void worstOfEqualOnes() {
        GlassBowls x = Stories.bowlAt(3000);
        int[] errors = {5, -5, 0, 5, -6, 0, 6};
        for (int i = 0; i < errors.length; i++) {
            x.note(i + 1, 3000 - errors[i]);
        }
        x.run(10);
        int[] order = {4, 6, 0, 1, 3, 2, 5};
        for (int place = 0; place < order.length; place++) {
            D.due("worst(" + place + ")", x.worst(place), order[place]);
        }
        D.due("no more", x.worst(order.length), Due.NOT_FOUND);
    }

    /** "a note that was played", "silent ones are left out" */
    private static void worstLeavesOthersOut() {
        GlassBowls x = new GlassBowls();
        x.note(0, 6000);
        x.note(1, 6000);
        x.note(2, 1000);
        x.note(3, 6000);
        x.run(1);
        x.bowl(1000, 1);
        x.run(1);
        D.due("the only one, without an error", x.worst(0), 2);
        D.due("no other", x.worst(1), Due.NOT_FOUND);
    }
}
