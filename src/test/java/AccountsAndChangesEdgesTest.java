/** "Accounts" and "Changes" of the document's terms: each sentence of a boundary case, with a test of its own. */
public final class AccountsAndChangesEdgesTest {
    private static final Due D = new Due("AccountsAndChangesEdgesTest");
    private static final Edges E = new Edges(D);

    public static void main(String[] args) {
        eachAccount();
        accountsOfARemovedBowl();
        accountsAfterEverything();
        accountsAtTheirGreatest();
        everyChangeIsTakenBack();
        changesWithoutEffectAreRecorded();
        fiveStatesAndTheSixth();
        everythingButTheText();
        the512thCall();
        D.end();
    }

    private static void accountsAre(GlassBowls x, String name, int poured, int in, int dried, int lost, int out) {
        int[] due = {poured, in, dried, lost, out};
        for (int i = 0; i < due.length; i++) {
            D.due("account " + i + " " + name, x.count(20 + i), due[i]);
        }
        D.due("0 is the sum of the others " + name, x.count(20), in + dried + lost + out);
    }

    /** "0 poured, 1 in the bowls, 2 dried, 3 lost by cracks, 4 taken out ...; 0 is the sum of the others" */
    private static void eachAccount() {
        GlassBowls x = new GlassBowls();
        accountsAre(x, "at first", 0, 0, 0, 0, 0);
        x.bowl(5, 1);
        x.pour(0, 1000);
        accountsAre(x, "after pour", 1000, 1000, 0, 0, 0);
        x.crack(0, 900);
        accountsAre(x, "after crack", 1000, 900, 0, 100, 0);
        x.pour(0, 100);
        accountsAre(x, "after pour at the crack", 1100, 900, 0, 200, 0);
        x.spill(0, 50);
        accountsAre(x, "after spill", 1100, 850, 0, 200, 50);
        x.run(60);
        accountsAre(x, "after drying", 1100, 849, 1, 200, 50);
        x.mark(0, 950);
        x.set(3, 1);
        x.note(61, 5);
        x.run(1);
        accountsAre(x, "after filling", 1201, 900, 1, 250, 50);
        x.rewind();
        accountsAre(x, "after rewind", 1201, 900, 1, 250, 50);
        x.undo();
        x.undo();
        accountsAre(x, "after undo of the filling", 1100, 849, 1, 200, 50);
    }

    /** "4 taken out (by spill, by removing a bowl)" */
    private static void accountsOfARemovedBowl() {
        GlassBowls x = Stories.bowlWith(5, 1, 1000);
        x.bowl(6, 1);
        x.remove(1);
        accountsAre(x, "an empty one is removed", 1000, 1000, 0, 0, 0);
        x.remove(0);
        accountsAre(x, "a full one is removed", 1000, 0, 0, 0, 1000);
        x.bowl(7, 1);
        accountsAre(x, "a new one is empty", 1000, 0, 0, 0, 1000);
        x.undo();
        x.undo();
        accountsAre(x, "the full one is there again", 1000, 1000, 0, 0, 0);
    }

    private static void accountsAfterEverything() {
        for (int i = 0; i < Stories.ALL.length; i++) {
            GlassBowls x = Stories.after(Stories.ALL[i]);
            int others = x.count(21) + x.count(22) + x.count(23) + x.count(24);
            D.due(Stories.NAMES[i] + ": 0 is the sum of the others", x.count(20), others);
        }
    }

    /** As much as 512 calls can pour: 40 phrases fill 10 bowls, all of it is lost, and this again and again. */
    private static void accountsAtTheirGreatest() {
        GlassBowls x = new GlassBowls();
        for (int i = 0; i < 10; i++) {
            x.bowl(5, 1);
            x.crack(i, 0);
            x.mark(i, 1000);
        }
        x.set(1, 1);
        x.set(3, 1);
        for (int time = 1; time <= 40; time++) {
            x.note(time, 5);
        }
        for (int i = 0; i < 200; i++) {
            x.run(40);
            x.rewind();
        }
        accountsAre(x, "at their greatest", 80000000, 0, 0, 80000000, 0);
    }

    /** "The changes are the calls of ... that return no error", "each change records everything before it" */
    private static void everyChangeIsTakenBack() {
        Stories.Story middle = Stories.MIDDLE;
        E.isTakenBack("bowl", middle, x -> x.bowl(500, 100), 3);
        E.isTakenBack("remove", middle, x -> x.remove(1), 2);
        E.isTakenBack("remove of the last one", middle, x -> x.remove(2), 2);
        E.isTakenBack("pour", middle, x -> x.pour(1, 100), 900);
        E.isTakenBack("spill", middle, x -> x.spill(0, 300), 0);
        E.isTakenBack("crack", middle, x -> x.crack(1, 100), 800);
        E.isTakenBack("mark", middle, x -> x.mark(2, 0), 400);
        E.isTakenBack("set of the drying", middle, x -> x.set(0, 1), 60);
        E.isTakenBack("set of the gap", middle, x -> x.set(1, 600), 10);
        E.isTakenBack("set of the tolerance", middle, x -> x.set(2, 0), 10);
        E.isTakenBack("set of filling", middle, x -> x.set(3, 0), 1);
        E.isTakenBack("note", middle, x -> x.note(5, 6000), 1);
        E.isTakenBack("drop of a played one", middle, x -> x.drop(1), 4);
        E.isTakenBack("drop of the last one", middle, x -> x.drop(4), 4);
        E.isTakenBack("transpose", middle, x -> x.transpose(0, 4, 4800), 5);
        E.isTakenBack("run", middle, x -> x.run(600), 1);
        E.isTakenBack("rewind", middle, GlassBowls::rewind, 20);
        E.isTakenBack("enter", middle, GlassBowls::enter, 1);
        E.isTakenBack("run of a silent one", Stories.SILENT, x -> x.run(10), 1);
        E.isTakenBack("rewind of a silent one", Stories.SILENT, GlassBowls::rewind, 10);
        E.isTakenBack("run of all", Stories.FULL, x -> x.run(600), 0);
        E.isTakenBack("rewind at the end", Stories.END, GlassBowls::rewind, 3600);
        E.isTakenBack("the first change", Stories.EMPTY, x -> x.bowl(0, 1), 0);
    }

    /** "The changes are the calls ... that return no error": also those by which nothing is different. */
    private static void changesWithoutEffectAreRecorded() {
        Stories.Story story = x -> x.bowl(5, 1);
        E.isTakenBack("rewind at 0", story, GlassBowls::rewind, 0);
        E.isTakenBack("enter of nothing", story, GlassBowls::enter, 0);
        E.isTakenBack("set to the value it has", story, x -> x.set(0, 60), 60);
        E.isTakenBack("a mark where it is", story, x -> x.mark(0, 0), 0);
        E.isTakenBack("a crack where it is", story, x -> x.crack(0, 1000), 0);
        E.isTakenBack("a second without a note", story, x -> x.run(1), 0);
        GlassBowls y = new GlassBowls();
        y.type('1');
        y.clearText();
        D.due("type and clearText are no changes", y.count(7), 0);
        y.bowl(5, 1);
        y.undo();
        D.due("undo is no change", y.count(7), 0);
    }

    /** "A history of at most 5 states is kept: ... if there are 6 states then, the oldest one is dropped." */
    private static void fiveStatesAndTheSixth() {
        for (int changes = 1; changes <= 12; changes++) {
            GlassBowls x = new GlassBowls();
            for (int i = 1; i <= changes; i++) {
                x.set(2, 100 + i);
                D.due("states after " + i, x.count(7), Math.min(i, 5));
            }
            int kept = Math.min(changes, 5);
            for (int i = 1; i <= kept; i++) {
                D.due("undo " + i + " of " + changes, x.undo(), kept - i);
                D.due("states", x.count(7), kept - i);
                D.due("the value", x.count(12), changes == i ? 10 : 100 + changes - i);
            }
            D.due("no more than these", x.undo(), Due.NOT_POSSIBLE);
        }
    }

    /** "each change records everything before it but the text" */
    private static void everythingButTheText() {
        GlassBowls x = new GlassBowls();
        x.type('1');
        x.bowl(5, 1);
        Due.write(x, ":2;");
        x.undo();
        D.due("what was typed stays", x.count(8), 4);
        D.due("enter", x.enter(), 1);
        x.undo();
        D.due("undo of enter leaves the text", x.count(8), 4);
        D.due("enter once more", x.enter(), 1);
        x.clearText();
        x.undo();
        D.due("what was emptied stays empty", x.count(8), 0);
        D.due("enter of nothing", x.enter(), 0);
    }

    /** "An object is used for at most 512 calls after it has been made" */
    private static void the512thCall() {
        GlassBowls x = new GlassBowls();
        for (int i = 0; i < 510; i++) {
            D.due("call " + i, x.set(2, i), i == 0 ? 10 : i - 1);
        }
        D.due("the 511th call", x.count(12), 509);
        D.due("the 512th call", x.undo(), 4);
    }
}
