/** Promises 25 to 28: pieces as texts, with places and reasons of faults. */
public final class TextsTest {
    private static final Due D = new Due("TextsTest");

    public static void main(String[] args) {
        promise25Type();
        promise26ClearText();
        promise27WrongAsked();
        promise27Form();
        promise27Range();
        promise27TimeTaken();
        promise27Room();
        promise27TheFirstReasonApplies();
        promise27ChangesNothing();
        promise28Enter();
        promise28EnterOfThePast();
        promise28IsOneChange();
        D.end();
    }

    private static GlassBowls with(String text) {
        GlassBowls x = new GlassBowls();
        Due.write(x, text);
        return x;
    }

    private static void faultOf(GlassBowls x, String text, int place, int reason) {
        x.clearText();
        Due.write(x, text);
        D.due("place of the fault of " + text, x.fault(0), place);
        D.due("reason of the fault of " + text, x.fault(1), reason);
        int notes = x.count(2);
        if (place != Due.NOT_FOUND) {
            D.due("enter of " + text, x.enter(), Due.NOT_POSSIBLE);
            D.due("notes after enter of " + text, x.count(2), notes);
        }
    }

    private static void promise25Type() {
        GlassBowls x = new GlassBowls();
        int[] wrong = {31, 127, -1, 0, 233, Integer.MIN_VALUE, Integer.MAX_VALUE};
        for (int character : wrong) {
            D.due("type(" + character + ")", x.type(character), Due.INVALID);
        }
        D.due("type(32)", x.type(32), 1);
        D.due("type(126)", x.type(126), 2);
        for (int i = 3; i <= 100; i++) {
            D.due("the length", x.type('0'), i);
        }
        D.due("one more", x.type('0'), Due.LIMIT);
        D.due("one more that is wrong", x.type(127), Due.INVALID);
        D.due("the length stays", x.count(8), 100);
        D.due("no state", x.count(7), 0);
    }

    private static void promise26ClearText() {
        GlassBowls x = with("1:2;");
        D.due("clearText", x.clearText(), 4);
        D.due("the length", x.count(8), 0);
        D.due("clearText again", x.clearText(), 0);
        D.due("enter of nothing", x.enter(), 0);
        Due.write(x, "3");
        D.due("what stood there is gone", x.fault(1), 1);
        Due.write(x, ":4;");
        D.due("enter", x.enter(), 1);
        D.due("the time", x.noteOf(0, 0), 3);
    }

    private static void promise27WrongAsked() {
        GlassBowls x = new GlassBowls();
        int[] wrong = {-1, 2, Integer.MIN_VALUE, Integer.MAX_VALUE};
        for (int what : wrong) {
            D.due("fault(" + what + ")", x.fault(what), Due.INVALID);
        }
        D.due("place of none", x.fault(0), Due.NOT_FOUND);
        D.due("reason of none", x.fault(1), Due.NOT_FOUND);
    }

    private static void promise27Form() {
        String[] bad = {"1", "1:", "1:2", ":", ";", ":2;", "1:;", "1;2:", "1;", "12345:1;", "1:12345;", "00001:1;",
            "1:00001;", " 1:2;", "1 :2;", "1: 2;", "1:2 ;", "-1:2;", "1:-2;", "1::2;", "a:2;", "1:a;", "1.5:2;",
            "/:1;", "1:/;", "::1;", "1,2;", "1:2:", "+1:2;", "3601", "0x1:2;"};
        for (String text : bad) {
            GlassBowls x = new GlassBowls();
            faultOf(x, text, 0, 1);
            faultOf(x, "7:8;" + text, 4, 1);
            faultOf(x, "0077:0088;9:9;" + text, 14, 1);
        }
        GlassBowls x = new GlassBowls();
        faultOf(x, "1:2; ", 4, 1);
        faultOf(x, "1:2;;", 4, 1);
        faultOf(x, "1:2;3:4;5", 8, 1);
        faultOf(x, "1:2;3:4", 4, 1);
        faultOf(x, "0:0;", Due.NOT_FOUND, Due.NOT_FOUND);
        faultOf(x, "0000:0000;", Due.NOT_FOUND, Due.NOT_FOUND);
        faultOf(x, "9:9;3600:6000;", Due.NOT_FOUND, Due.NOT_FOUND);
    }

    private static void promise27Range() {
        GlassBowls x = new GlassBowls();
        faultOf(x, "3601:0;", 0, 2);
        faultOf(x, "0:6001;", 0, 2);
        faultOf(x, "9999:9999;", 0, 2);
        faultOf(x, "1:1;3601:0;", 4, 2);
        faultOf(x, "1:1;2:6001;z", 4, 2);
        faultOf(x, "3600:6000;", Due.NOT_FOUND, Due.NOT_FOUND);
    }

    private static void promise27TimeTaken() {
        GlassBowls x = new GlassBowls();
        x.note(50, 100);
        faultOf(x, "50:1;", 0, 3);
        faultOf(x, "0050:1;", 0, 3);
        faultOf(x, "49:1;50:1;51:1;", 5, 3);
        faultOf(x, "49:1;51:1;49:2;", 10, 3);
        faultOf(x, "60:1;40:1;060:1;", 10, 3);
        faultOf(x, "49:1;51:1;", Due.NOT_FOUND, Due.NOT_FOUND);
        x.drop(0);
        faultOf(x, "50:1;", Due.NOT_FOUND, Due.NOT_FOUND);
    }

    private static void promise27Room() {
        GlassBowls x = new GlassBowls();
        for (int i = 0; i < 38; i++) {
            x.note(100 + i, 5);
        }
        faultOf(x, "1:1;2:2;", Due.NOT_FOUND, Due.NOT_FOUND);
        faultOf(x, "1:1;2:2;3:3;", 8, 4);
        faultOf(x, "1:1;2:2;3:3;4:4;", 8, 4);
        x.note(200, 5);
        faultOf(x, "1:1;2:2;", 4, 4);
        x.note(201, 5);
        faultOf(x, "1:1;", 0, 4);
        faultOf(x, "", Due.NOT_FOUND, Due.NOT_FOUND);
        D.due("nothing may be entered", x.enter(), 0);
        x.drop(0);
        faultOf(x, "1:1;", Due.NOT_FOUND, Due.NOT_FOUND);
    }

    private static void promise27TheFirstReasonApplies() {
        GlassBowls x = new GlassBowls();
        for (int i = 0; i < 40; i++) {
            x.note(100 + i, 5);
        }
        faultOf(x, "100:1", 0, 1);
        faultOf(x, "9999:1", 0, 1);
        faultOf(x, "100:6001;", 0, 2);
        faultOf(x, "1:6001;", 0, 2);
        faultOf(x, "100:1;", 0, 3);
        faultOf(x, "1:1;", 0, 4);
        faultOf(x, "1:1;x", 0, 4);
    }

    private static void promise27ChangesNothing() {
        GlassBowls x = with("5:6;7:8;");
        x.fault(0);
        x.fault(1);
        D.due("no notes", x.count(2), 0);
        D.due("no states", x.count(7), 0);
        D.due("the text", x.count(8), 8);
    }

    private static void promise28Enter() {
        GlassBowls x = with("0300:0400;20:6000;3:0;");
        x.note(100, 50);
        D.due("enter", x.enter(), 3);
        int[] times = {3, 20, 100, 300};
        int[] pitches = {0, 6000, 50, 400};
        for (int i = 0; i < 4; i++) {
            D.due("time of " + i, x.noteOf(i, 0), times[i]);
            D.due("pitch of " + i, x.noteOf(i, 1), pitches[i]);
            D.due("not played: " + i, x.noteOf(i, 3), 0);
        }
        D.due("the text stays", x.count(8), 22);
        D.due("the notes are there now", x.fault(1), 3);
        D.due("enter again", x.enter(), Due.NOT_POSSIBLE);
        D.due("notes", x.count(2), 4);
        StringBuilder longest = new StringBuilder();
        for (int i = 0; i < 10; i++) {
            longest.append(i).append(":1;");
        }
        for (int i = 10; i < 22; i++) {
            longest.append(i).append(":1;");
        }
        D.due("a text of 100 characters", longest.length(), 100);
        D.due("all of it", with(longest.toString()).enter(), 22);
    }

    private static void promise28EnterOfThePast() {
        GlassBowls x = with("5:1000;10:1000;15:1000;");
        x.bowl(1000, 1);
        x.note(1, 1000);
        x.run(10);
        x.enter();
        D.due("what was played is kept", x.noteOf(0, 3), 1);
        D.due("its bowl too", x.noteOf(0, 4), 0);
        D.due("only the one to come", x.run(10), 1);
        D.due("played", x.noteOf(3, 3), 1);
        D.due("not played", x.noteOf(2, 3), 0);
    }

    private static void promise28IsOneChange() {
        GlassBowls x = with("1:1;2:2;3:3;");
        x.enter();
        D.due("states", x.count(7), 1);
        D.due("undo", x.undo(), 0);
        D.due("all are gone", x.count(2), 0);
        D.due("the text stays", x.count(8), 12);
        D.due("enter once more", x.enter(), 3);
    }
}
