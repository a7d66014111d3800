/** "Bowls" and "Piece" of the document's terms: each sentence that names a boundary case, with a test of its own. */
public final class BowlsAndPieceEdgesTest {
    private static final Due D = new Due("BowlsAndPieceEdgesTest");
    private static final Edges E = new Edges(D);

    public static void main(String[] args) {
        atMostTenBowls();
        baseAndDepth();
        firstLevelMarkAndCrack();
        levelUpToAThousand();
        quotientIsRounded();
        pitchMayBeBelowZero();
        neverAboveTheCrack();
        lostByTheCrackAtOnce();
        settingsAndTheirRanges();
        atMostFortyNotes();
        noTwoAtTheSameTime();
        numberedInTheOrderOfTimes();
        theFirstNoteBeginsAPhrase();
        phraseIfTheGapIsReached();
        phrasesFromZero();
        D.end();
    }

    /** "There are at most 10 bowls, numbered from 0." */
    private static void atMostTenBowls() {
        GlassBowls x = new GlassBowls();
        for (int i = 0; i < 10; i++) {
            D.due("number of a bowl", x.bowl(i, 1), i);
        }
        D.due("an eleventh bowl", x.bowl(10, 1), Due.LIMIT);
        D.due("base of the first", x.bowlOf(0, 0), 0);
        D.due("base of the tenth", x.bowlOf(9, 0), 9);
        D.due("there is no eleventh", x.bowlOf(10, 0), Due.INVALID);
        x.remove(0);
        D.due("room for one more", x.bowl(10, 1), 9);
        D.due("and for no other", x.bowl(11, 1), Due.LIMIT);
    }

    /** "a base (0 to 6000: its pitch when it is empty), a depth (1 to 2400)" */
    private static void baseAndDepth() {
        int[][] edges = {{0, 1}, {0, 2400}, {6000, 1}, {6000, 2400}};
        for (int[] e : edges) {
            GlassBowls x = Stories.bowlWith(e[0], e[1], 0);
            D.due("base " + e[0], x.bowlOf(0, 0), e[0]);
            D.due("depth " + e[1], x.bowlOf(0, 1), e[1]);
            D.due("pitch when it is empty", x.bowlOf(0, 5), e[0]);
            x.pour(0, 1000);
            D.due("pitch when it is full", x.bowlOf(0, 5), e[0] - e[1]);
        }
    }

    /** "a level (0 to 1000 drops, initially 0), a mark (0 to 1000, initially 0) and a crack (... initially 1000)" */
    private static void firstLevelMarkAndCrack() {
        GlassBowls x = Stories.bowlAt(5);
        D.due("first level", x.bowlOf(0, 2), 0);
        D.due("first mark", x.bowlOf(0, 3), 0);
        D.due("first crack", x.bowlOf(0, 4), 1000);
        D.due("previous mark", x.mark(0, 1000), 0);
        D.due("crack 0", x.crack(0, 0), 0);
        x.bowl(6, 1);
        D.due("first level of another one", x.bowlOf(1, 2), 0);
        D.due("first mark of another one", x.bowlOf(1, 3), 0);
        D.due("first crack of another one", x.bowlOf(1, 4), 1000);
        x.pour(1, 500);
        x.mark(1, 600);
        x.crack(1, 700);
        x.remove(1);
        x.bowl(7, 1);
        D.due("first level in the place of a removed one", x.bowlOf(1, 2), 0);
        D.due("first mark in the place of a removed one", x.bowlOf(1, 3), 0);
        D.due("first crack in the place of a removed one", x.bowlOf(1, 4), 1000);
    }

    /** "a level (0 to 1000 drops ...)" */
    private static void levelUpToAThousand() {
        GlassBowls x = Stories.bowlAt(5);
        D.due("full by one pouring", x.pour(0, 1000), 1000);
        D.due("not above", x.pour(0, 1), Due.LIMIT);
        D.due("empty by one spilling", x.spill(0, 1000), 0);
        D.due("not below", x.spill(0, 1), Due.NOT_POSSIBLE);
    }

    /** "base - (depth * level * level / 1000000), so the quotient is rounded": it is, and down, not the difference. */
    private static void quotientIsRounded() {
        int[][] due = {{1, 999, 0}, {1, 1000, 1}, {4, 499, 0}, {4, 500, 1}, {4, 707, 1}, {4, 708, 2}, {4, 866, 2},
            {4, 867, 3}, {2400, 20, 0}, {2400, 21, 1}, {2400, 999, 2395}, {2400, 1000, 2400}, {2400, 946, 2147},
            {2399, 1, 0}, {2399, 980, 2303}, {1000, 31, 0}, {1000, 32, 1}};
        for (int[] d : due) {
            D.due("quotient of " + d[0] + " and " + d[1], 3000 - Stories.bowlWith(3000, d[0], d[1]).bowlOf(0, 5), d[2]);
        }
    }

    /** "it may be below 0" */
    private static void pitchMayBeBelowZero() {
        D.due("just 0", Stories.bowlWith(1, 1, 1000).bowlOf(0, 5), 0);
        D.due("just below 0", Stories.bowlWith(0, 1, 1000).bowlOf(0, 5), -1);
        D.due("the quotient is rounded here too", Stories.bowlWith(0, 1, 999).bowlOf(0, 5), 0);
        D.due("the lowest of all", Stories.bowlWith(0, 2400, 1000).bowlOf(0, 5), -2400);
    }

    /** "The level is never above the crack" */
    private static void neverAboveTheCrack() {
        GlassBowls x = Stories.bowlAt(5);
        x.crack(0, 500);
        D.due("one below the crack", x.pour(0, 499), 499);
        D.due("to the crack", x.pour(0, 1), 500);
        D.due("nothing is lost up to it", x.count(23), 0);
        D.due("one above the crack", x.pour(0, 1), 500);
        D.due("one is lost", x.count(23), 1);
        x.crack(0, 1000);
        D.due("a crack at 1000 lets all stay", x.pour(0, 500), 1000);
        D.due("nothing more is lost", x.count(23), 1);
        x.crack(0, 0);
        D.due("a crack at 0 lets nothing stay", x.pour(0, 1), 0);
    }

    /** "what would be above it is lost by the crack at once" */
    private static void lostByTheCrackAtOnce() {
        GlassBowls x = Stories.bowlWith(5, 1, 1000);
        D.due("a crack at the level", x.crack(0, 1000), 0);
        D.due("a crack one below it", x.crack(0, 999), 1);
        D.due("the level then", x.bowlOf(0, 2), 999);
        D.due("a crack at the ground", x.crack(0, 0), 999);
        D.due("the level then", x.bowlOf(0, 2), 0);
        D.due("it is in the account", x.count(23), 1000);
        D.due("it does not come back", x.crack(0, 1000), 0);
        D.due("the level still", x.bowlOf(0, 2), 0);
    }

    /** "The settings are (in parentheses: range; first value)" */
    private static void settingsAndTheirRanges() {
        int[][] settings = {{1, 600, 60}, {1, 600, 10}, {0, 600, 10}, {0, 1, 0}};
        for (int i = 0; i < settings.length; i++) {
            GlassBowls x = new GlassBowls();
            int what = i;
            D.due("first value of " + i, x.set(i, settings[i][0]), settings[i][2]);
            D.due("the least of " + i, x.set(i, settings[i][1]), settings[i][0]);
            D.due("the greatest of " + i, x.count(10 + i), settings[i][1]);
            E.refusesBeyond("set " + i, y -> y.set(2, 3), (y, v) -> y.set(what, v), settings[i][0], settings[i][1]);
        }
    }

    /** "The piece has at most 40 notes" */
    private static void atMostFortyNotes() {
        GlassBowls x = new GlassBowls();
        for (int i = 0; i < 40; i++) {
            D.due("number of a note", x.note(i, 0), i);
        }
        D.due("a 41st note", x.note(40, 0), Due.LIMIT);
        x.drop(39);
        D.due("room for one more", x.note(40, 0), 39);
        D.due("and for no other", x.note(41, 0), Due.LIMIT);
    }

    /** "no two at the same time (0 to 3600)" */
    private static void noTwoAtTheSameTime() {
        GlassBowls x = new GlassBowls();
        int[] times = {0, 1, 1800, 3599, 3600};
        for (int time : times) {
            D.holds("a note at " + time, x.note(time, 5) >= 0);
            D.due("a second one at " + time, x.note(time, 6), Due.NOT_POSSIBLE);
        }
        D.due("the notes", x.count(2), 5);
        x.drop(2);
        D.due("the time is free again", x.note(1800, 7), 2);
    }

    /** "numbered from 0 in the order of their times" */
    private static void numberedInTheOrderOfTimes() {
        GlassBowls x = new GlassBowls();
        D.due("the only one", x.note(10, 100), 0);
        D.due("one second ahead of it", x.note(9, 101), 0);
        D.due("one second behind it", x.note(11, 102), 2);
        D.due("the first time of all", x.note(0, 103), 0);
        D.due("the last time of all", x.note(3600, 104), 4);
        int[] pitches = {103, 101, 100, 102, 104};
        for (int i = 0; i < pitches.length; i++) {
            D.due("pitch of " + i, x.noteOf(i, 1), pitches[i]);
        }
    }

    /** "A note begins a phrase if it is the first one": also at the time 0, and also with the greatest gap. */
    private static void theFirstNoteBeginsAPhrase() {
        GlassBowls x = Stories.bowlAt(5);
        x.set(1, 600);
        D.due("no phrase without notes", x.count(3), 0);
        x.note(0, 5);
        D.due("one phrase", x.count(3), 1);
        x.note(1, 5);
        D.due("still one", x.count(3), 1);
        x.mark(0, 7);
        x.set(3, 1);
        x.run(1);
        D.due("the second one begins none, and fills nothing", x.bowlOf(0, 2), 0);
        x.drop(0);
        x.rewind();
        x.run(1);
        D.due("as the first one it does", x.bowlOf(0, 2), 7);
    }

    /** "or the time since the note before it is at least the gap" */
    private static void phraseIfTheGapIsReached() {
        int[] gaps = {1, 2, 10, 600};
        for (int gap : gaps) {
            GlassBowls x = new GlassBowls();
            x.set(1, gap);
            x.note(5, 100);
            x.note(5 + gap, 100);
            D.due("at the gap of " + gap, x.noteOf(1, 2), 1);
            D.due("phrases", x.count(3), 2);
            x.drop(1);
            x.note(5 + gap + 1, 100);
            D.due("above the gap of " + gap, x.noteOf(1, 2), 1);
            if (gap > 1) {
                x.drop(1);
                x.note(5 + gap - 1, 100);
                D.due("below the gap of " + gap, x.noteOf(1, 2), 0);
                D.due("phrases", x.count(3), 1);
            }
        }
    }

    /** "Phrases are numbered from 0." */
    private static void phrasesFromZero() {
        GlassBowls x = new GlassBowls();
        x.set(1, 1);
        for (int i = 0; i < 40; i++) {
            x.note(i, 0);
        }
        D.due("the first phrase", x.noteOf(0, 2), 0);
        D.due("the last phrase", x.noteOf(39, 2), 39);
        D.due("phrases", x.count(3), 40);
        x.set(1, 2);
        D.due("the last note's phrase", x.noteOf(39, 2), 0);
        D.due("one phrase", x.count(3), 1);
    }
}
