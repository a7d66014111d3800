import java.util.Arrays;

/** What holds at the edges of every call: where a range ends, and that an error or a question changes nothing. */
final class Edges {
    interface Call {
        int on(GlassBowls x);
    }

    interface CallWith {
        int on(GlassBowls x, int value);
    }

    private static final int MOST_STATES = 5;
    private static final Call NOTHING = x -> 0;
    private final Due due;

    Edges(Due due) {
        this.due = due;
    }

    /** The call answers this, and then nothing is different, in no state of the history either. */
    void changesNothing(String name, Stories.Story story, Call call, int want) {
        int states = Stories.after(story).count(7);
        GlassBowls x = Stories.after(story);
        due.due(name, call.on(x), want);
        due.due("states after " + name, x.count(7), states);
        for (int undone = 0; undone <= states; undone++) {
            due.holds("nothing changes, " + undone + " undone, by " + name,
                same(afterUndo(story, NOTHING, undone), afterUndo(story, call, undone)));
        }
    }

    /** The change answers this, records one state, and is taken back wholly. */
    void isTakenBack(String name, Stories.Story story, Call change, int want) {
        int states = Stories.after(story).count(7);
        GlassBowls x = Stories.after(story);
        due.due(name, change.on(x), want);
        due.due("states after " + name, x.count(7), Math.min(states + 1, MOST_STATES));
        due.due("undo of " + name, x.undo(), Math.min(states, MOST_STATES - 1));
        int[][] before = afterUndo(story, NOTHING, 0);
        due.holds(name + " is taken back",
            same(before, afterUndo(story, y -> change.on(y) + y.undo(), 0)));
        due.holds("the oldest state after " + name,
            same(afterUndo(story, NOTHING, Math.min(states, MOST_STATES - 1)),
                afterUndo(story, change, Math.min(states + 1, MOST_STATES))));
    }

    private static int[][] afterUndo(Stories.Story story, Call call, int undone) {
        int[][] parts = new int[Sight.PARTS][];
        for (int part = 0; part < Sight.PARTS; part++) {
            GlassBowls x = Stories.after(story);
            call.on(x);
            for (int i = 0; i < undone; i++) {
                x.undo();
            }
            parts[part] = Sight.of(x, part);
        }
        return parts;
    }

    private static boolean same(int[][] before, int[][] after) {
        return Arrays.deepEquals(before, after);
    }

    /** The last values on both sides are let in; the first ones beyond them, and the ends of int, are not. */
    void range(String name, Stories.Story story, CallWith call, int least, int most) {
        letsIn(name, story, call, least);
        letsIn(name, story, call, most);
        refusesBeyond(name, story, call, least, most);
    }

    void refusesBeyond(String name, Stories.Story story, CallWith call, int least, int most) {
        int[] beyond = {least - 1, most + 1, Integer.MIN_VALUE, Integer.MAX_VALUE};
        for (int value : beyond) {
            changesNothing(name + " with " + value, story, x -> call.on(x, value), Due.INVALID);
        }
    }

    void letsIn(String name, Stories.Story story, CallWith call, int value) {
        due.holds(name + " with " + value + " is let in", call.on(Stories.after(story), value) != Due.INVALID);
    }
}
