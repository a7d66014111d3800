/** Objects in the states that the edges are looked at in; none needs more than 150 calls. */
final class Stories {
    interface Story {
        void tell(GlassBowls x);
    }

    /** Fills the text to its last character with notes at the times 0 to 21. */
    static final String FULL_TEXT = fullText();
    static final Story EMPTY = x -> { };
    static final Story MIDDLE = Stories::middle;
    static final Story SILENT = Stories::silent;
    static final Story FULL = Stories::full;
    static final Story END = Stories::end;
    static final Story[] ALL = {EMPTY, MIDDLE, SILENT, FULL, END};
    static final String[] NAMES = {"empty", "middle", "silent", "full", "end"};

    private Stories() {
    }

    static GlassBowls after(Story story) {
        GlassBowls x = new GlassBowls();
        story.tell(x);
        return x;
    }

    /** A bowl whose pitch is its base, as its depth of 1 lowers it at 1000 drops only. */
    static GlassBowls bowlAt(int base) {
        return bowlWith(base, 1, 0);
    }

    static GlassBowls bowlWith(int base, int depth, int level) {
        GlassBowls x = new GlassBowls();
        x.bowl(base, depth);
        if (level > 0) {
            x.pour(0, level);
        }
        return x;
    }

    private static String fullText() {
        StringBuilder text = new StringBuilder();
        for (int time = 0; time < 22; time++) {
            text.append(time).append(":1;");
        }
        return text.toString();
    }

    /** Three bowls, a note of each kind, a text without a fault, the time 20. */
    private static void middle(GlassBowls x) {
        x.bowl(1000, 500);
        x.bowl(2000, 1000);
        x.bowl(0, 2400);
        x.pour(0, 300);
        x.pour(1, 1000);
        x.crack(1, 900);
        x.note(0, 100);
        x.note(10, 1200);
        x.note(15, 955);
        x.note(40, 900);
        Due.write(x, "77:88;");
        x.run(20);
        x.note(20, 500);
        x.mark(2, 400);
        x.set(3, 1);
    }

    /** No bowl; one note was played, one is to come; a text with a fault; the time 10. */
    private static void silent(GlassBowls x) {
        x.note(5, 100);
        x.note(20, 200);
        x.run(10);
        Due.write(x, "1:2;3");
    }

    /** All that is limited is full: 10 bowls, 40 notes, 100 characters, 5 states; the time is 600. */
    private static void full(GlassBowls x) {
        for (int i = 0; i < 10; i++) {
            x.bowl(600 * i, 2400 - 100 * i);
        }
        Due.write(x, FULL_TEXT);
        x.enter();
        for (int i = 22; i < 40; i++) {
            x.note(90 * i, 150 * i);
        }
        for (int i = 0; i < 10; i++) {
            x.pour(i, 100 * i + 100);
        }
        x.set(3, 1);
        x.mark(0, 500);
        x.run(600);
    }

    /** The last second, with notes at the first one and at the last one. */
    private static void end(GlassBowls x) {
        x.bowl(3000, 1200);
        x.pour(0, 1000);
        x.note(0, 100);
        x.note(3600, 1806);
        for (int i = 0; i < 6; i++) {
            x.run(600);
        }
    }
}
