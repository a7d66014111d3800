/**
 * Everything that can be seen of an object from outside. It is looked at in parts, each on an object of its own that
 * went through the same story, because an object is good for 512 calls only.
 */
final class Sight {
    static final int PARTS = 3;
    private static final int[] COUNTS = {0, 1, 2, 3, 4, 5, 6, 8, 10, 11, 12, 13, 20, 21, 22, 23, 24};
    private static final int MOST_BOWLS = 10;
    private static final int MOST_NOTES = 40;
    private static final int MOST_SEEN = 400;

    private final int[] seen = new int[MOST_SEEN];
    private int size = 0;

    private Sight() {
    }

    static int[] of(GlassBowls x, int part) {
        Sight sight = new Sight();
        switch (part) {
            case 0: sight.countsAndBowls(x); break;
            case 1: sight.notes(x); break;
            default: sight.whatComes(x); break;
        }
        return sight.seen;
    }

    private void add(int answer) {
        seen[size++] = answer;
    }

    /** Without the number of states: a state that is taken back again costs the oldest of five. */
    private void countsAndBowls(GlassBowls x) {
        for (int what : COUNTS) {
            add(x.count(what));
        }
        for (int bowl = 0; bowl < MOST_BOWLS; bowl++) {
            for (int what = 0; what <= 6; what++) {
                add(x.bowlOf(bowl, what));
            }
            add(x.pitchAt(bowl, 3600));
        }
        for (int note = 0; note < MOST_NOTES; note++) {
            add(x.wouldBe(note));
        }
        add(x.firstFalse());
        add(x.leastTolerance());
        add(x.fault(0));
        add(x.fault(1));
    }

    private void notes(GlassBowls x) {
        for (int note = 0; note < MOST_NOTES; note++) {
            for (int what = 0; what <= 6; what++) {
                add(x.noteOf(note, what));
            }
            add(x.worst(note));
        }
    }

    /** The signs of the text are seen by nothing but what is entered, so this goes on with the object. */
    private void whatComes(GlassBowls x) {
        add(x.enter());
        add(x.run(1));
        add(x.run(100));
        add(x.rewind());
        add(x.run(600));
        for (int what : COUNTS) {
            add(x.count(what));
        }
        for (int note = 0; note < MOST_NOTES; note++) {
            add(x.noteOf(note, 0));
            add(x.noteOf(note, 1));
            add(x.noteOf(note, 5));
        }
    }
}
