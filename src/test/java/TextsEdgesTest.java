/** "Texts" of the document's terms, and promises 25 to 28: each sentence of a boundary case, with a test of its own. */
public final class TextsEdgesTest {
    private static final int NONE = Due.NOT_FOUND;
    private static final Due D = new Due("TextsEdgesTest");
    private static final Edges E = new Edges(D);

    public static void main(String[] args) {
        atMostAHundredCharacters();
        emptyAtFirst();
        everyCharacterThatMayBeTyped();
        clearTextOfAnyLength();
        oneToFourDigits();
        eachOtherCharacterIsNotOfThisForm();
        cutOffAnywhere();
        cutOffAtTheHundredthCharacter();
        outOfItsRange();
        takenInThePiece();
        takenAheadInTheText();
        noRoomInThePiece();
        noRoomWithThoseAhead();
        positionOfTheFirstOne();
        formAheadOfAllOthers();
        rangeAheadOfTimeAndRoom();
        timeAheadOfRoom();
        faultOfAnEmptyText();
        enterOfAnEmptyText();
        enterReturnsHowManyThereAre();
        enterFillsThePiece();
        enterAddsNothingOfAFaultyText();
        enterLeavesTheText();
        enterOfThePresentTime();
        enterIsOneChange();
        D.end();
    }

    private static GlassBowls with(String text) {
        GlassBowls x = new GlassBowls();
        Due.write(x, text);
        return x;
    }

    /** A piece of so many notes, at the times 1000 and later. */
    private static GlassBowls withNotes(int notes) {
        GlassBowls x = new GlassBowls();
        addNotes(x, notes);
        return x;
    }

    private static void addNotes(GlassBowls x, int notes) {
        for (int i = 0; i < notes; i++) {
            x.note(1000 + i, 5);
        }
    }

    private static void faultIs(GlassBowls x, String text, int place, int reason) {
        x.clearText();
        Due.write(x, text);
        D.due("place in " + text, x.fault(0), place);
        D.due("reason in " + text, x.fault(1), reason);
    }

    private static void faultIs(String text, int place, int reason) {
        faultIs(new GlassBowls(), text, place, reason);
    }

    /** "There is a text of at most 100 characters", "LIMIT_REACHED if it has 100 characters." */
    private static void atMostAHundredCharacters() {
        GlassBowls x = new GlassBowls();
        for (int i = 1; i <= 100; i++) {
            D.due("length", x.type(i % 2 == 0 ? 32 : 126), i);
        }
        D.due("the 101st", x.type(32), Due.LIMIT);
        D.due("a wrong 101st", x.type(31), Due.INVALID);
        D.due("the length", x.count(8), 100);
        D.due("cleared", x.clearText(), 100);
        D.due("the first again", x.type(32), 1);
    }

    /** "initially empty" */
    private static void emptyAtFirst() {
        GlassBowls x = new GlassBowls();
        D.due("the length", x.count(8), 0);
        D.due("place", x.fault(0), NONE);
        D.due("cleared", x.clearText(), 0);
        D.due("entered", x.enter(), 0);
    }

    /** "character: 32 to 126" */
    private static void everyCharacterThatMayBeTyped() {
        for (int character = -1; character <= 256; character++) {
            boolean may = character >= 32 && character <= 126;
            D.due("type(" + character + ")", new GlassBowls().type(character), may ? 1 : Due.INVALID);
        }
        E.range("type", Stories.SILENT, GlassBowls::type, 32, 126);
    }

    /** "Empties the text. Returns the length it had." */
    private static void clearTextOfAnyLength() {
        int[] lengths = {0, 1, 99, 100};
        for (int length : lengths) {
            GlassBowls x = with("9".repeat(length));
            D.due("length", x.clearText(), length);
            D.due("length then", x.count(8), 0);
            D.due("no fault then", x.fault(0), NONE);
            D.due("again", x.clearText(), 0);
            Due.write(x, "1:2;");
            D.due("nothing of it is left", x.fault(1), NONE);
            D.due("one note", x.enter(), 1);
        }
        GlassBowls y = with("1:2;3:4;");
        y.clearText();
        y.type('5');
        D.due("a first digit does not bring back the rest", y.fault(1), 1);
        Due.write(y, ":6;");
        D.due("nor does a whole note", y.enter(), 1);
    }

    /** "a time (1 to 4 digits), ":", a pitch (1 to 4 digits)" */
    private static void oneToFourDigits() {
        String[] times = {"", "3", "30", "300", "3000", "03000", "00003"};
        String[] pitches = {"", "5", "50", "500", "5000", "05000", "00005"};
        for (String time : times) {
            for (String pitch : pitches) {
                boolean form = time.length() >= 1 && time.length() <= 4 && pitch.length() >= 1 && pitch.length() <= 4;
                faultIs(time + ":" + pitch + ";", form ? NONE : 0, form ? NONE : 1);
                faultIs("9:9;" + time + ":" + pitch + ";", form ? NONE : 4, form ? NONE : 1);
            }
        }
        GlassBowls x = with("0000:0000;0001:0010;");
        D.due("leading zeros", x.enter(), 2);
        D.due("the time", x.noteOf(1, 0), 1);
        D.due("the pitch", x.noteOf(1, 1), 10);
    }

    /** "its reason is 1 if it is not of this form": with any other character in any place. */
    private static void eachOtherCharacterIsNotOfThisForm() {
        String good = "12:34;";
        for (char character = 32; character <= 126; character++) {
            for (int place = 0; place < good.length(); place++) {
                String text = good.substring(0, place) + character + good.substring(place + 1);
                boolean digit = character >= '0' && character <= '9';
                boolean form = place == 2 ? character == ':' : place == 5 ? character == ';' : digit;
                boolean endsEarlier = place == 4 && character == ';';
                faultIs(text, form ? NONE : endsEarlier ? 5 : 0, form ? NONE : 1);
            }
        }
    }

    /** "notes, each followed by ";"" */
    private static void cutOffAnywhere() {
        String good = "3600:6000;";
        for (int length = 1; length < good.length(); length++) {
            String cut = good.substring(0, length);
            faultIs(cut, 0, 1);
            faultIs(good + cut, 10, 1);
        }
        faultIs(good, NONE, NONE);
        faultIs(";", 0, 1);
        faultIs(good + ";", 10, 1);
        faultIs(good + " ", 10, 1);
    }

    private static void cutOffAtTheHundredthCharacter() {
        String start = Stories.FULL_TEXT.substring(0, 95);
        String[] lasts = {"21:11", "21:1:", "2111:", "21111", "     ", "21;1;", ":::::", ";;;;;", "21:1x"};
        for (String last : lasts) {
            GlassBowls x = with(start + last);
            D.due("the length", x.count(8), 100);
            D.due("place with " + last, x.fault(0), 95);
            D.due("reason with " + last, x.fault(1), 1);
        }
        faultIs(start + "99:1;", NONE, NONE);
        faultIs(start + "1:12;", 95, 3);
        faultIs(start + "1:1;2", 95, 3);
        faultIs(start.substring(0, 90) + "30:1;31:1;", NONE, NONE);
        faultIs("3600:6000;".repeat(10), 10, 3);
    }

    /** "2 if a number is out of its range" */
    private static void outOfItsRange() {
        String[] good = {"0:0", "3600:0", "0:6000", "3600:6000", "3599:5999", "0000:0000", "0999:999"};
        String[] bad = {"3601:0", "0:6001", "3601:6001", "9999:0", "0:9999", "3600:6001", "3601:6000", "4000:1"};
        for (String note : good) {
            faultIs(note + ";", NONE, NONE);
        }
        for (String note : bad) {
            faultIs(note + ";", 0, 2);
            faultIs("7:7;8:8;" + note + ";", 8, 2);
        }
    }

    /** "3 if there is a note at this time (in the piece ...)": at the first, the last and any time between. */
    private static void takenInThePiece() {
        GlassBowls x = new GlassBowls();
        x.note(0, 5);
        x.note(1800, 5);
        x.note(3600, 5);
        int[] taken = {0, 1800, 3600};
        int[] free = {1, 1799, 1801, 3599};
        for (int time : taken) {
            faultIs(x, time + ":5;", 0, 3);
            faultIs(x, "7:7;" + time + ":5;", 4, 3);
        }
        for (int time : free) {
            faultIs(x, time + ":5;", NONE, NONE);
        }
        x.run(600);
        faultIs(x, "0:1;", 0, 3);
        x.drop(0);
        faultIs(x, "0:1;", NONE, NONE);
        x.undo();
        faultIs(x, "0:1;", 0, 3);
    }

    /** "3 if there is a note at this time (... or ahead in the text)" */
    private static void takenAheadInTheText() {
        faultIs("5:1;5:1;", 4, 3);
        faultIs("5:1;05:2;", 4, 3);
        faultIs("0:1;0000:2;", 4, 3);
        faultIs("3600:1;3600:2;", 7, 3);
        faultIs("5:1;6:1;4:1;5:1;", 12, 3);
        faultIs("5:1;6:1;4:1;4:1;", 12, 3);
        faultIs("5:1;6:1;4:1;6:1;", 12, 3);
        faultIs("5:1;6:1;4:1;7:1;", NONE, NONE);
        faultIs("3:1;2:1;1:1;0:1;", NONE, NONE);
    }

    /** "4 if there is no room for it" */
    private static void noRoomInThePiece() {
        faultIs(withNotes(39), "1:1;", NONE, NONE);
        faultIs(withNotes(40), "1:1;", 0, 4);
        GlassBowls x = withNotes(40);
        x.drop(0);
        faultIs(x, "1:1;", NONE, NONE);
        x.undo();
        faultIs(x, "1:1;", 0, 4);
    }

    /** "4 if there is no room for it (with those ahead in the text)" */
    private static void noRoomWithThoseAhead() {
        faultIs(withNotes(18), Stories.FULL_TEXT, NONE, NONE);
        faultIs(withNotes(19), Stories.FULL_TEXT, 95, 4);
        faultIs(withNotes(20), Stories.FULL_TEXT, 90, 4);
        faultIs(withNotes(39), Stories.FULL_TEXT, 4, 4);
        faultIs(withNotes(40), Stories.FULL_TEXT, 0, 4);
    }

    /** "the position, from 0, of the first character of the first note that is not possible" */
    private static void positionOfTheFirstOne() {
        faultIs("x1:1;", 0, 1);
        faultIs("1:1;1:1;x", 4, 3);
        faultIs("1:1;x;1:1;", 4, 1);
        faultIs("1:1;2:6001;1:1;", 4, 2);
        faultIs("1:1;0002:0002;3:3;3:3;", 18, 3);
        faultIs(withNotes(39), "1:1;2:2;9999:1;1:1;x", 4, 4);
        faultIs(withNotes(39), "1:1;9999:1;2:2;", 4, 2);
    }

    /** "the first one of these that applies": the form, though the number, the time and the room are faults too. */
    private static void formAheadOfAllOthers() {
        faultIs("9999:9999", 0, 1);
        faultIs("9999x1;", 0, 1);
        faultIs(withNotes(1), "1000:5", 0, 1);
        faultIs(withNotes(40), "1000:6001", 0, 1);
        faultIs(withNotes(40), "1:1", 0, 1);
        faultIs(withNotes(40), "99999:1;", 0, 1);
    }

    private static void rangeAheadOfTimeAndRoom() {
        faultIs(withNotes(1), "1000:6001;", 0, 2);
        faultIs("5:1;5:6001;", 4, 2);
        faultIs(withNotes(40), "1:6001;", 0, 2);
        faultIs(withNotes(40), "3601:1;", 0, 2);
        faultIs(withNotes(40), "1000:6001;", 0, 2);
    }

    private static void timeAheadOfRoom() {
        faultIs(withNotes(40), "1000:5;", 0, 3);
        faultIs(withNotes(40), "1039:5;", 0, 3);
        faultIs(withNotes(40), "1040:5;", 0, 4);
        faultIs(withNotes(39), "1:5;1:6;", 4, 3);
        faultIs(withNotes(39), "1:5;2:6;", 4, 4);
    }

    /** "NOT_FOUND if the text has no fault (also if it is empty)" */
    private static void faultOfAnEmptyText() {
        faultIs("", NONE, NONE);
        faultIs(withNotes(40), "", NONE, NONE);
        GlassBowls x = with("x");
        D.due("a fault", x.fault(1), 1);
        x.clearText();
        D.due("no place any more", x.fault(0), NONE);
        D.due("no reason any more", x.fault(1), NONE);
    }

    private static void enterOfAnEmptyText() {
        int[] notes = {0, 1, 39, 40};
        for (int n : notes) {
            E.isTakenBack("enter of nothing into " + n, x -> addNotes(x, n), GlassBowls::enter, 0);
            GlassBowls x = withNotes(n);
            D.due("into " + n, x.enter(), 0);
            D.due("the notes", x.count(2), n);
        }
    }

    /** "Returns how many there are in it" */
    private static void enterReturnsHowManyThereAre() {
        for (int notes = 0; notes <= 22; notes++) {
            int end = notes <= 10 ? 4 * notes : 40 + 5 * (notes - 10);
            GlassBowls x = with(Stories.FULL_TEXT.substring(0, end));
            D.due("so many in it", x.enter(), notes);
            D.due("so many in the piece", x.count(2), notes);
        }
        GlassBowls y = withNotes(3);
        Due.write(y, "1:1;2:2;");
        D.due("those of the text only", y.enter(), 2);
        D.due("all of the piece", y.count(2), 5);
    }

    private static void enterFillsThePiece() {
        GlassBowls x = withNotes(18);
        Due.write(x, Stories.FULL_TEXT);
        D.due("the last that there is room for", x.enter(), 22);
        D.due("the notes", x.count(2), 40);
        D.due("the last of the text", x.noteOf(21, 0), 21);
        D.due("the first of the others", x.noteOf(22, 0), 1000);
        D.due("the last of the others", x.noteOf(39, 0), 1017);
        D.due("no room for one more", x.note(500, 5), Due.LIMIT);
        GlassBowls y = withNotes(19);
        Due.write(y, Stories.FULL_TEXT);
        D.due("one too many", y.enter(), Due.NOT_POSSIBLE);
        D.due("none was added", y.count(2), 19);
    }

    /** "NOT_POSSIBLE if it has a fault": then the notes ahead of the fault are not added either. */
    private static void enterAddsNothingOfAFaultyText() {
        String[] bad = {"x", "1:1;2:2", "1:1;2:6001;", "1:1;1:2;", "1:1;1000:5;"};
        for (String text : bad) {
            Stories.Story story = x -> {
                x.note(1000, 5);
                Due.write(x, text);
            };
            E.changesNothing("enter of " + text, story, GlassBowls::enter, Due.NOT_POSSIBLE);
        }
        Stories.Story noRoom = x -> {
            addNotes(x, 39);
            Due.write(x, "1:1;2:2;");
        };
        E.changesNothing("enter without room for the second one", noRoom, GlassBowls::enter, Due.NOT_POSSIBLE);
    }

    /** "Adds all notes of the text, which stays." */
    private static void enterLeavesTheText() {
        GlassBowls x = with("1:1;2:2;");
        D.due("enter", x.enter(), 2);
        D.due("the length", x.count(8), 8);
        D.due("now its times are taken", x.fault(1), 3);
        D.due("from its first note on", x.fault(0), 0);
        D.due("enter again", x.enter(), Due.NOT_POSSIBLE);
        x.drop(0);
        D.due("the first one is free", x.fault(0), 4);
        x.drop(0);
        D.due("both are free", x.enter(), 2);
        D.due("on with it", x.type('3'), 9);
        D.due("what is new is not of the form", x.fault(0), 0);
    }

    /** "A note whose time is not greater than the present one, when it is added, is not played" */
    private static void enterOfThePresentTime() {
        GlassBowls x = Stories.bowlAt(5);
        x.run(10);
        Due.write(x, "9:5;10:5;11:5;0:5;");
        D.due("enter", x.enter(), 4);
        D.due("none is played by it", x.count(4), 0);
        D.due("one is to come", x.run(600), 1);
        D.due("that at 11", x.noteOf(3, 3), 1);
        D.due("not that at 10", x.noteOf(2, 3), 0);
        x.rewind();
        D.due("all but the one at 0", x.run(600), 3);
    }

    /** "A history of at most 5 states is kept": however many notes there are, enter is one change. */
    private static void enterIsOneChange() {
        GlassBowls x = withNotes(3);
        Due.write(x, Stories.FULL_TEXT);
        D.due("states", x.count(7), 3);
        D.due("enter", x.enter(), 22);
        D.due("one more", x.count(7), 4);
        D.due("undo", x.undo(), 3);
        D.due("all are gone", x.count(2), 3);
        D.due("enter again", x.enter(), 22);
        E.isTakenBack("enter of the whole text", y -> Due.write(y, Stories.FULL_TEXT), GlassBowls::enter, 22);
    }
}
