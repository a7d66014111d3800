/** Promises 1 to 13: each sentence that names a boundary case, with a test of its own. */
public final class BowlCallsEdgesTest {
    private static final Due D = new Due("BowlCallsEdgesTest");
    private static final Edges E = new Edges(D);

    public static void main(String[] args) {
        withoutBowlsAndNotesAtZero();
        objectsShareNothing();
        bowlReturnsItsNumber();
        removeTheFirstTheLastTheOnly();
        removeLeavesNumbersOfPlayedNotes();
        removedBowlsDoNothingMore();
        pourUpToTheRim();
        pourWhateverTheCrackIs();
        spillAllAndOneMore();
        crackReturnsWhatIsLost();
        markReturnsThePreviousOne();
        pitchAtTheMarkOrTheCrack();
        levelForUpToTheCrack();
        levelForTheLowestOfSeveral();
        levelForBeyondEveryPitch();
        nearestIsTheOneNow();
        setReturnsThePreviousValue();
        countsOfAFullObject();
        countsOfSilentNotes();
        countsOfAnEmptyObject();
        undoReturnsWhatIsLeft();
        undoOfUndoneChanges();
        D.end();
    }

    /** "Creates a table without bowls and notes, at the time 0." */
    private static void withoutBowlsAndNotesAtZero() {
        GlassBowls x = new GlassBowls();
        D.due("time", x.count(0), 0);
        D.due("bowls", x.count(1), 0);
        D.due("notes", x.count(2), 0);
        D.due("no bowl 0", x.bowlOf(0, 0), Due.INVALID);
        D.due("no note 0", x.noteOf(0, 0), Due.INVALID);
        D.due("nothing is nearest", x.nearest(0), Due.NOT_FOUND);
        D.due("no text", x.clearText(), 0);
        D.due("nothing to take back", x.undo(), Due.NOT_POSSIBLE);
        D.due("the whole time is ahead", x.rewind(), 0);
        for (int i = 0; i < 6; i++) {
            D.due("run on without anything", x.run(600), 0);
        }
        D.due("the end", x.run(1), Due.LIMIT);
    }

    private static void objectsShareNothing() {
        GlassBowls full = Stories.after(Stories.FULL);
        GlassBowls x = new GlassBowls();
        for (int what = 0; what <= 8; what++) {
            D.due("count(" + what + ") next to a full one", x.count(what), 0);
        }
        x.bowl(1, 1);
        x.clearText();
        x.undo();
        D.due("the full one keeps its bowls", full.count(1), 10);
        D.due("and its text", full.count(8), 100);
        D.due("and its states", full.count(7), 5);
    }

    /** "Returns its number": also after others were removed or a change was taken back. */
    private static void bowlReturnsItsNumber() {
        GlassBowls x = new GlassBowls();
        D.due("the first", x.bowl(0, 1), 0);
        D.due("the second", x.bowl(6000, 2400), 1);
        x.undo();
        D.due("the second again", x.bowl(1, 1), 1);
        x.remove(0);
        D.due("the second after a removal", x.bowl(2, 1), 1);
        x.remove(0);
        x.remove(0);
        D.due("the first again", x.bowl(3, 1), 0);
    }

    private static GlassBowls tenBowls() {
        GlassBowls x = new GlassBowls();
        for (int i = 0; i < 10; i++) {
            x.bowl(i, 10 + i);
            x.pour(i, 20 + i);
            x.mark(i, 40 + i);
            x.crack(i, 60 + i);
        }
        return x;
    }

    /** Which of ten bowls each number has now, or none, by all that is known of it. */
    private static void bowlsAre(GlassBowls x, int[] which) {
        D.due("bowls", x.count(1), which.length);
        for (int i = 0; i < which.length; i++) {
            for (int what = 0; what < 5; what++) {
                int first = what == 0 ? 0 : what == 1 ? 10 : what == 2 ? 20 : what == 3 ? 40 : 60;
                D.due("property " + what + " of " + i, x.bowlOf(i, what), first + which[i]);
            }
        }
        D.due("no bowl behind the last one", x.bowlOf(which.length, 0), Due.INVALID);
    }

    /** "the numbers of the later ones decrease by 1", "Returns how many bowls remain" */
    private static void removeTheFirstTheLastTheOnly() {
        GlassBowls x = tenBowls();
        D.due("remove the last of ten", x.remove(9), 9);
        bowlsAre(x, new int[] {0, 1, 2, 3, 4, 5, 6, 7, 8});
        D.due("it is there no more", x.remove(9), Due.INVALID);
        GlassBowls y = tenBowls();
        D.due("remove the first of ten", y.remove(0), 9);
        bowlsAre(y, new int[] {1, 2, 3, 4, 5, 6, 7, 8, 9});
        D.due("remove one between", y.remove(4), 8);
        bowlsAre(y, new int[] {1, 2, 3, 4, 6, 7, 8, 9});
        for (int i = 7; i >= 0; i--) {
            D.due("remove on", y.remove(0), i);
        }
        D.due("none is left", y.remove(0), Due.INVALID);
        D.due("the water of all", y.count(24), 245);
    }

    /** "(Notes that were played keep the number of their bowl as it was.)": also if there is no such bowl any more. */
    private static void removeLeavesNumbersOfPlayedNotes() {
        GlassBowls x = new GlassBowls();
        for (int i = 0; i < 10; i++) {
            x.bowl(600 * i, 1);
        }
        x.note(1, 0);
        x.note(2, 5400);
        x.run(2);
        for (int i = 0; i < 10; i++) {
            x.remove(0);
            D.due("the first bowl as it was", x.noteOf(0, 4), 0);
            D.due("the last bowl as it was", x.noteOf(1, 4), 9);
        }
        D.due("it was not silent", x.count(6), 0);
        D.due("it is clean still", x.count(5), 2);
    }

    /** "Takes a bowl away, with its water": it is not filled, dries not, loses nothing and does not sound. */
    private static void removedBowlsDoNothingMore() {
        GlassBowls x = Stories.bowlAt(1000);
        x.bowl(2000, 1);
        x.pour(1, 500);
        x.mark(1, 900);
        x.crack(1, 600);
        x.set(0, 1);
        x.set(3, 1);
        x.note(5, 2000);
        x.remove(1);
        x.run(5);
        D.due("poured", x.count(20), 500);
        D.due("in the bowls", x.count(21), 0);
        D.due("dried", x.count(22), 0);
        D.due("lost", x.count(23), 0);
        D.due("taken out", x.count(24), 500);
        D.due("the other one sounds", x.noteOf(0, 4), 0);
    }

    /** "LIMIT_REACHED if the level and these drops are more than 1000" */
    private static void pourUpToTheRim() {
        int[] levels = {1, 500, 999};
        for (int level : levels) {
            GlassBowls x = Stories.bowlWith(5, 1, level);
            D.due("one too many into " + level, x.pour(0, 1001 - level), Due.LIMIT);
            D.due("the level stays", x.bowlOf(0, 2), level);
            D.due("up to the rim from " + level, x.pour(0, 1000 - level), 1000);
            D.due("one more", x.pour(0, 1), Due.LIMIT);
        }
        GlassBowls y = Stories.bowlAt(5);
        D.due("1000 into an empty one", y.pour(0, 1000), 1000);
        D.due("1001 are no drops of one pouring", Stories.bowlAt(5).pour(0, 1001), Due.INVALID);
    }

    /** "whatever the crack is" */
    private static void pourWhateverTheCrackIs() {
        int[] cracks = {0, 1, 400, 999};
        for (int crack : cracks) {
            GlassBowls x = Stories.bowlAt(5);
            x.crack(0, crack);
            D.due("1000 into an empty one with the crack " + crack, x.pour(0, 1000), crack);
            D.due("lost", x.count(23), 1000 - crack);
            if (crack > 0) {
                D.due("one too many", x.pour(0, 1001 - crack), Due.LIMIT);
            }
            D.due("just not too many", x.pour(0, 1000 - crack), crack);
            D.due("poured", x.count(20), 2000 - crack);
        }
    }

    /** "NOT_POSSIBLE if there is not so much." */
    private static void spillAllAndOneMore() {
        int[] levels = {1, 2, 500, 999, 1000};
        for (int level : levels) {
            GlassBowls x = Stories.bowlWith(5, 1, level);
            D.due("one more than there is", x.spill(0, level + 1), level == 1000 ? Due.INVALID : Due.NOT_POSSIBLE);
            D.due("all but one", level == 1 ? 1 : x.spill(0, level - 1), 1);
            D.due("two of one", x.spill(0, 2), Due.NOT_POSSIBLE);
            D.due("the last one", x.spill(0, 1), 0);
            D.due("one of none", x.spill(0, 1), Due.NOT_POSSIBLE);
        }
        D.due("all at once", Stories.bowlWith(5, 1, 1000).spill(0, 1000), 0);
    }

    /** "Returns the drops that are lost by this" */
    private static void crackReturnsWhatIsLost() {
        int[][] cracks = {{500, 1000, 0}, {500, 501, 0}, {500, 500, 0}, {500, 499, 1}, {500, 1, 499}, {500, 0, 500},
            {0, 0, 0}, {1000, 0, 1000}, {1000, 999, 1}};
        for (int[] c : cracks) {
            GlassBowls x = Stories.bowlWith(5, 1, c[0]);
            D.due("level " + c[0] + ", crack " + c[1], x.crack(0, c[1]), c[2]);
            D.due("the level then", x.bowlOf(0, 2), c[0] - c[2]);
            D.due("the crack then", x.bowlOf(0, 4), c[1]);
            D.due("the same crack again", x.crack(0, c[1]), 0);
        }
    }

    /** "Returns the previous mark" */
    private static void markReturnsThePreviousOne() {
        GlassBowls x = Stories.bowlAt(5);
        x.bowl(6, 1);
        D.due("of a new one", x.mark(0, 1000), 0);
        D.due("the greatest", x.mark(0, 0), 1000);
        D.due("the least", x.mark(0, 1), 0);
        D.due("the same again", x.mark(0, 1), 1);
        D.due("of the other one", x.mark(1, 7), 0);
        x.crack(1, 3);
        D.due("a crack does not lower it", x.mark(1, 8), 7);
    }

    /** "6: the pitch that it would have at its mark (or at its crack, if this is lower)" */
    private static void pitchAtTheMarkOrTheCrack() {
        int[][] cases = {{500, 501, 2750}, {500, 500, 2750}, {500, 400, 2840}, {0, 1000, 3000}, {1000, 0, 3000},
            {1000, 1000, 2000}, {1000, 999, 2002}, {999, 1000, 2002}};
        for (int[] c : cases) {
            GlassBowls x = Stories.bowlWith(3000, 1000, 0);
            x.mark(0, c[0]);
            x.crack(0, c[1]);
            D.due("mark " + c[0] + ", crack " + c[1], x.bowlOf(0, 6), c[2]);
            D.due("the pitch that it has", x.bowlOf(0, 5), 3000);
        }
        GlassBowls y = Stories.bowlWith(3000, 1000, 800);
        y.mark(0, 100);
        D.due("a mark below the level", y.bowlOf(0, 6), 2990);
    }

    /** "only levels up to the crack" */
    private static void levelForUpToTheCrack() {
        int[][] cases = {{1000, 1000}, {999, 999}, {500, 500}, {21, 21}, {20, 0}, {1, 0}, {0, 0}};
        for (int[] c : cases) {
            GlassBowls x = Stories.bowlWith(6000, 2400, 0);
            x.crack(0, c[0]);
            D.due("as low as the crack " + c[0] + " lets it", x.levelFor(0, 0), c[1]);
        }
        GlassBowls y = Stories.bowlWith(3000, 1000, 0);
        y.crack(0, 500);
        D.due("the pitch at the crack", y.levelFor(0, 2750), 500);
        D.due("just below it", y.levelFor(0, 2749), 500);
        D.due("one higher", y.levelFor(0, 2751), 499);
        y.crack(0, 499);
        D.due("the crack is below that pitch", y.levelFor(0, 2750), 499);
    }

    /** "nearest to a pitch, of several the lowest one" */
    private static void levelForTheLowestOfSeveral() {
        GlassBowls x = Stories.bowlWith(3000, 1, 700);
        D.due("999 levels as near as 0", x.levelFor(0, 3000), 0);
        D.due("only one at the depth", x.levelFor(0, 2999), 1000);
        GlassBowls y = Stories.bowlWith(3000, 4, 0);
        int[] lowest = {0, 500, 708, 867, 1000};
        for (int lower = 0; lower < lowest.length; lower++) {
            D.due("the lowest of a step", y.levelFor(0, 3000 - lower), lowest[lower]);
        }
        GlassBowls z = Stories.bowlWith(3000, 2000, 0);
        D.due("1996 and 2000 are as near to 1998", z.levelFor(0, 3000 - 1998), 999);
        D.due("2000 is nearer to 1999", z.levelFor(0, 3000 - 1999), 1000);
        D.due("1996 is nearer to 1997", z.levelFor(0, 3000 - 1997), 999);
    }

    private static void levelForBeyondEveryPitch() {
        GlassBowls x = Stories.bowlWith(0, 2400, 0);
        D.due("far above", x.levelFor(0, 6000), 0);
        D.due("far below", x.levelFor(0, -3000), 1000);
        D.due("the base", x.levelFor(0, 0), 0);
        D.due("the depth", x.levelFor(0, -2400), 1000);
        GlassBowls y = Stories.bowlWith(6000, 1, 0);
        D.due("the highest of all", y.levelFor(0, 6000), 0);
        D.due("the lowest asked", y.levelFor(0, -3000), 1000);
    }

    /** "Returns the bowl that would sound now." */
    private static void nearestIsTheOneNow() {
        GlassBowls x = Stories.bowlAt(0);
        D.due("the only one, far away", x.nearest(6000), 0);
        x.bowl(6000, 2400);
        D.due("nearest(6000)", x.nearest(6000), 1);
        D.due("as near to both", x.nearest(3000), 0);
        D.due("one nearer to the second", x.nearest(3001), 1);
        x.pour(1, 1000);
        D.due("water makes it lower", x.nearest(1801), 1);
        D.due("as near to both then", x.nearest(1800), 0);
        x.remove(0);
        D.due("the only one again", x.nearest(0), 0);
        x.remove(0);
        D.due("none", x.nearest(0), Due.NOT_FOUND);
    }

    /** "Returns the previous value" */
    private static void setReturnsThePreviousValue() {
        int[][] ends = {{1, 600}, {1, 600}, {0, 600}, {0, 1}};
        GlassBowls x = new GlassBowls();
        for (int what = 0; what < 4; what++) {
            int first = x.count(10 + what);
            D.due("the first value", x.set(what, ends[what][1]), first);
            D.due("the greatest", x.set(what, ends[what][0]), ends[what][1]);
            D.due("the least", x.set(what, ends[what][0]), ends[what][0]);
        }
        for (int what = 0; what < 4; what++) {
            D.due("each has its own", x.count(10 + what), ends[what][0]);
        }
    }

    private static void countsAre(GlassBowls x, String name, int[] due) {
        for (int what = 0; what < due.length; what++) {
            D.due(name + ": count(" + what + ")", x.count(what), due[what]);
        }
    }

    /** Forty played notes, each of them clean and a phrase, in the last second of all. */
    private static void countsOfAFullObject() {
        GlassBowls x = Stories.bowlAt(0);
        for (int i = 1; i < 10; i++) {
            x.bowl(0, 1);
        }
        for (int i = 0; i < 40; i++) {
            x.note(3600 - 10 * i, 0);
        }
        Due.write(x, Stories.FULL_TEXT);
        for (int i = 0; i < 6; i++) {
            x.run(600);
        }
        countsAre(x, "full", new int[] {3600, 10, 40, 40, 40, 40, 0, 5, 100});
    }

    private static void countsOfSilentNotes() {
        GlassBowls x = new GlassBowls();
        for (int i = 1; i <= 40; i++) {
            x.note(i, 0);
        }
        x.run(39);
        countsAre(x, "39 silent ones", new int[] {39, 0, 40, 1, 39, 0, 39, 5, 0});
        x.run(1);
        countsAre(x, "40 silent ones", new int[] {40, 0, 40, 1, 40, 0, 40, 5, 0});
    }

    private static void countsOfAnEmptyObject() {
        countsAre(new GlassBowls(), "empty", new int[] {0, 0, 0, 0, 0, 0, 0, 0, 0});
        int[] wrong = {-1, 9, 14, 19, 25, Integer.MIN_VALUE, Integer.MAX_VALUE};
        for (int what : wrong) {
            for (Stories.Story story : Stories.ALL) {
                E.changesNothing("count(" + what + ")", story, x -> x.count(what), Due.INVALID);
            }
        }
    }

    /** "Returns the number of states that are left in the history; NOT_POSSIBLE if it is empty." */
    private static void undoReturnsWhatIsLeft() {
        GlassBowls x = new GlassBowls();
        D.due("of a new object", x.undo(), Due.NOT_POSSIBLE);
        for (int i = 0; i < 5; i++) {
            x.bowl(i, 1);
        }
        for (int left = 4; left >= 0; left--) {
            D.due("left", x.undo(), left);
            D.due("bowls", x.count(1), left);
        }
        D.due("of none", x.undo(), Due.NOT_POSSIBLE);
        D.due("nothing changes by it", x.count(1), 0);
    }

    /** "Restores the latest state of the history, which is removed from it." */
    private static void undoOfUndoneChanges() {
        GlassBowls x = new GlassBowls();
        for (int i = 1; i <= 7; i++) {
            x.set(2, i);
        }
        x.undo();
        x.undo();
        D.due("after two", x.count(12), 5);
        x.set(2, 100);
        x.set(2, 200);
        x.set(2, 300);
        D.due("five again", x.count(7), 5);
        int[] values = {200, 100, 5, 4, 3};
        for (int i = 0; i < values.length; i++) {
            D.due("left", x.undo(), 4 - i);
            D.due("the value", x.count(12), values[i]);
        }
        D.due("no more", x.undo(), Due.NOT_POSSIBLE);
    }
}
