/** Promises 12 and 13: the numbers that are counted, and the history. */
public final class CountsAndUndoTest {
    private static final Due D = new Due("CountsAndUndoTest");

    public static void main(String[] args) {
        promise12WrongNumbers();
        promise12Numbers();
        promise12SilentOnes();
        promise12Accounts();
        promise13Empty();
        promise13FiveStates();
        promise13Everything();
        promise13TextStays();
        promise13EveryChange();
        promise13ErrorsAndQuestionsAreNoChanges();
        D.end();
    }

    private static void promise12WrongNumbers() {
        GlassBowls x = new GlassBowls();
        int[] wrong = {-1, 9, 14, 15, 19, 25, 100, Integer.MIN_VALUE, Integer.MAX_VALUE};
        for (int what : wrong) {
            D.due("count(" + what + ")", x.count(what), Due.INVALID);
        }
    }

    private static void promise12Numbers() {
        GlassBowls x = new GlassBowls();
        x.bowl(1000, 100);
        x.bowl(2000, 100);
        x.note(5, 1000);
        x.note(14, 1500);
        x.note(24, 2011);
        x.note(700, 2000);
        Due.write(x, "abc");
        x.run(100);
        int[] due = {100, 2, 4, 3, 3, 1, 0, 5, 3};
        for (int what = 0; what < due.length; what++) {
            D.due("count(" + what + ")", x.count(what), due[what]);
        }
        x.set(1, 9);
        D.due("phrases with a gap of 9", x.count(3), 4);
        x.set(1, 11);
        D.due("phrases with a gap of 11", x.count(3), 2);
    }

    private static void promise12SilentOnes() {
        GlassBowls x = new GlassBowls();
        x.note(1, 100);
        x.note(2, 100);
        x.note(3, 100);
        x.run(2);
        D.due("played", x.count(4), 2);
        D.due("clean", x.count(5), 0);
        D.due("silent", x.count(6), 2);
        x.bowl(100, 1);
        x.run(1);
        D.due("played with a bowl", x.count(4), 3);
        D.due("clean with a bowl", x.count(5), 1);
        D.due("silent still", x.count(6), 2);
    }

    private static void promise12Accounts() {
        GlassBowls x = new GlassBowls();
        x.bowl(1000, 100);
        x.bowl(2000, 100);
        x.pour(0, 900);
        x.pour(1, 300);
        x.crack(0, 700);
        x.spill(0, 50);
        x.set(0, 10);
        x.run(35);
        x.remove(1);
        D.due("poured", x.count(20), 1200);
        D.due("in the bowls", x.count(21), 647);
        D.due("dried", x.count(22), 6);
        D.due("lost", x.count(23), 200);
        D.due("taken out", x.count(24), 347);
    }

    private static void promise13Empty() {
        GlassBowls x = new GlassBowls();
        D.due("undo of nothing", x.undo(), Due.NOT_POSSIBLE);
        x.bowl(1, 1);
        D.due("undo", x.undo(), 0);
        D.due("no bowl", x.count(1), 0);
        D.due("undo of nothing again", x.undo(), Due.NOT_POSSIBLE);
        D.due("no bowl still", x.count(1), 0);
    }

    private static void promise13FiveStates() {
        GlassBowls x = new GlassBowls();
        for (int i = 1; i <= 8; i++) {
            x.set(2, i);
            D.due("states after " + i, x.count(7), Math.min(i, 5));
        }
        for (int i = 1; i <= 5; i++) {
            D.due("undo " + i, x.undo(), 5 - i);
            D.due("tolerance after undo " + i, x.count(12), 8 - i);
        }
        D.due("the sixth is dropped", x.undo(), Due.NOT_POSSIBLE);
        D.due("tolerance", x.count(12), 3);
        x.set(2, 100);
        x.set(2, 200);
        D.due("undo after a new start", x.undo(), 1);
        D.due("tolerance", x.count(12), 100);
        x.set(2, 300);
        D.due("states", x.count(7), 2);
        x.undo();
        x.undo();
        D.due("tolerance", x.count(12), 3);
    }

    private static void promise13Everything() {
        GlassBowls x = new GlassBowls();
        x.bowl(1000, 500);
        x.bowl(1200, 500);
        x.pour(0, 300);
        x.mark(0, 400);
        x.set(3, 1);
        x.note(5, 1100);
        x.note(30, 990);
        x.run(10);
        int[] before = observe(x);
        x.run(60);
        x.undo();
        D.holds("run is taken back", java.util.Arrays.equals(before, observe(x)));
        x.rewind();
        x.undo();
        D.holds("rewind is taken back", java.util.Arrays.equals(before, observe(x)));
        x.drop(0);
        x.undo();
        D.holds("drop is taken back with what was played", java.util.Arrays.equals(before, observe(x)));
        x.remove(0);
        x.undo();
        D.holds("remove is taken back", java.util.Arrays.equals(before, observe(x)));
        x.crack(0, 10);
        x.undo();
        D.holds("crack is taken back", java.util.Arrays.equals(before, observe(x)));
        x.pour(1, 10);
        x.undo();
        D.holds("pour is taken back", java.util.Arrays.equals(before, observe(x)));
        x.spill(0, 10);
        x.undo();
        D.holds("spill is taken back", java.util.Arrays.equals(before, observe(x)));
        x.transpose(0, 1, 10);
        x.undo();
        D.holds("transpose is taken back", java.util.Arrays.equals(before, observe(x)));
        x.note(7, 10);
        x.undo();
        D.holds("note is taken back", java.util.Arrays.equals(before, observe(x)));
    }

    private static int[] observe(GlassBowls x) {
        int[] all = new int[60];
        int at = 0;
        for (int what = 0; what <= 6; what++) {
            all[at++] = x.count(what);
        }
        for (int what = 10; what <= 13; what++) {
            all[at++] = x.count(what);
        }
        for (int what = 20; what <= 24; what++) {
            all[at++] = x.count(what);
        }
        for (int i = 0; i < 2; i++) {
            for (int what = 0; what <= 6; what++) {
                all[at++] = x.bowlOf(i, what);
                all[at++] = x.noteOf(i, what);
            }
        }
        return all;
    }

    private static void promise13TextStays() {
        GlassBowls x = new GlassBowls();
        x.bowl(1, 1);
        Due.write(x, "1:2;");
        D.due("typing records no state", x.count(7), 1);
        x.undo();
        D.due("the text stays", x.count(8), 4);
        D.due("and is the same", x.enter(), 1);
        x.clearText();
        D.due("clearing records no state", x.count(7), 1);
        x.undo();
        D.due("no text comes back", x.count(8), 0);
    }

    private static void promise13EveryChange() {
        GlassBowls x = new GlassBowls();
        String[] changes = {"bowl", "pour", "spill", "crack", "mark", "set", "note", "transpose", "run", "rewind",
            "drop", "enter", "remove"};
        int[] answers = {0, 10, 9, 0, 0, 60, 0, 1, 0, 3, 0, 0, 0};
        for (int i = 0; i < changes.length; i++) {
            D.due(changes[i], change(x, changes[i]), answers[i]);
            D.due("states after " + changes[i], x.count(7), Math.min(i + 1, 5));
            if (i >= 4) {
                x.undo();
                D.due(changes[i] + " again", change(x, changes[i]), answers[i]);
                D.due("states after " + changes[i] + " again", x.count(7), 5);
            }
        }
        GlassBowls y = new GlassBowls();
        y.rewind();
        y.enter();
        D.due("rewind at 0 and enter of nothing are changes", y.count(7), 2);
    }

    private static int change(GlassBowls x, String name) {
        switch (name) {
            case "bowl": return x.bowl(500, 100);
            case "pour": return x.pour(0, 10);
            case "spill": return x.spill(0, 1);
            case "crack": return x.crack(0, 900);
            case "mark": return x.mark(0, 5);
            case "set": return x.set(0, 50);
            case "note": return x.note(100, 500);
            case "transpose": return x.transpose(0, 0, 5);
            case "run": return x.run(3);
            case "rewind": return x.rewind();
            case "drop": return x.drop(0);
            case "enter": return x.enter();
            default: return x.remove(0);
        }
    }

    private static void promise13ErrorsAndQuestionsAreNoChanges() {
        GlassBowls x = new GlassBowls();
        x.bowl(500, 100);
        x.note(10, 500);
        int[] answers = {x.bowl(-1, 0), x.remove(9), x.pour(0, 0), x.spill(0, 5), x.crack(0, 1001), x.mark(0, -1),
            x.set(9, 9), x.note(10, 1), x.drop(1), x.transpose(0, 0, 6000), x.run(0), x.worst(-1)};
        for (int answer : answers) {
            D.holds("an error", answer <= Due.INVALID && answer >= Due.NOT_FOUND);
        }
        x.type('x');
        D.due("enter with a fault", x.enter(), Due.NOT_POSSIBLE);
        x.bowlOf(0, 0);
        x.levelFor(0, 0);
        x.nearest(0);
        x.noteOf(0, 0);
        x.wouldBe(0);
        x.firstFalse();
        x.leastTolerance();
        x.pitchAt(0, 100);
        x.fault(0);
        D.due("states", x.count(7), 2);
    }
}
