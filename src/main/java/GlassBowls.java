/** Glass bowls that are tuned by water, and the piece that is played on them. */
public final class GlassBowls {
    public static final int INVALID_ARGUMENT = -100001;
    public static final int NOT_POSSIBLE = -100002;
    public static final int LIMIT_REACHED = -100003;
    public static final int NOT_FOUND = -100004;

    private static final int MOST_BOWLS = 10;
    private static final int MOST_NOTES = 40;
    private static final int MOST_STATES = 5;
    private static final int MOST_CHARACTERS = 100;
    private static final int MOST_DIGITS = 4;

    private static final int LOWEST_ASKED_PITCH = -3000;
    private static final int HIGHEST_PITCH = 6000;
    private static final int GREATEST_DEPTH = 2400;
    private static final int MOST_DROPS = 1000;
    private static final int LAST_SECOND = 3600;
    private static final int LONGEST_RUN = 600;

    private static final int SETTINGS = 4;
    private static final int DRYING = 0;
    private static final int GAP = 1;
    private static final int TOLERANCE = 2;
    private static final int FILLING = 3;

    private static final int FIRST_SETTING_COUNT = 10;
    private static final int FIRST_ACCOUNT_COUNT = 20;
    private static final int ACCOUNTS = 5;

    private static final int NONE = -1;

    private final Table table = new Table();
    /** A second table, made once, on which questions are tried out so that nothing changes. */
    private final Table trial = new Table();
    private final History history = new History();
    private final Text text = new Text();

    public GlassBowls() {
    }

    // ---- bowls

    public int bowl(int base, int depth) {
        if (!isWithin(base, 0, HIGHEST_PITCH) || !isWithin(depth, 1, GREATEST_DEPTH)) {
            return INVALID_ARGUMENT;
        }
        if (table.bowls.size() >= MOST_BOWLS) {
            return LIMIT_REACHED;
        }
        history.record(table);
        table.bowls.append(base, depth);
        return table.bowls.size() - 1;
    }

    public int remove(int bowl) {
        if (!table.bowls.has(bowl)) {
            return INVALID_ARGUMENT;
        }
        history.record(table);
        table.bowls.takeAway(bowl);
        return table.bowls.size();
    }

    public int pour(int bowl, int drops) {
        if (!table.bowls.has(bowl) || !isWithin(drops, 1, MOST_DROPS)) {
            return INVALID_ARGUMENT;
        }
        if (table.bowls.levelIn(bowl) + drops > MOST_DROPS) {
            return LIMIT_REACHED;
        }
        history.record(table);
        table.bowls.addWater(bowl, drops);
        return table.bowls.levelIn(bowl);
    }

    public int spill(int bowl, int drops) {
        if (!table.bowls.has(bowl) || !isWithin(drops, 1, MOST_DROPS)) {
            return INVALID_ARGUMENT;
        }
        if (table.bowls.levelIn(bowl) < drops) {
            return NOT_POSSIBLE;
        }
        history.record(table);
        table.bowls.takeWater(bowl, drops);
        return table.bowls.levelIn(bowl);
    }

    public int crack(int bowl, int level) {
        if (!table.bowls.has(bowl) || !isWithin(level, 0, MOST_DROPS)) {
            return INVALID_ARGUMENT;
        }
        history.record(table);
        int before = table.bowls.levelIn(bowl);
        table.bowls.moveCrack(bowl, level);
        return before - table.bowls.levelIn(bowl);
    }

    public int mark(int bowl, int level) {
        if (!table.bowls.has(bowl) || !isWithin(level, 0, MOST_DROPS)) {
            return INVALID_ARGUMENT;
        }
        history.record(table);
        return table.bowls.moveMark(bowl, level);
    }

    public int bowlOf(int bowl, int what) {
        if (!table.bowls.has(bowl)) {
            return INVALID_ARGUMENT;
        }
        return table.bowls.property(bowl, what);
    }

    public int levelFor(int bowl, int pitch) {
        if (!table.bowls.has(bowl) || !isWithin(pitch, LOWEST_ASKED_PITCH, HIGHEST_PITCH)) {
            return INVALID_ARGUMENT;
        }
        return table.bowls.nearestLevel(bowl, pitch);
    }

    public int nearest(int pitch) {
        if (!isWithin(pitch, 0, HIGHEST_PITCH)) {
            return INVALID_ARGUMENT;
        }
        return orNotFound(table.bowls.nearestBowl(pitch));
    }

    public int set(int what, int value) {
        if (!isSetting(what, value)) {
            return INVALID_ARGUMENT;
        }
        history.record(table);
        return table.changeSetting(what, value);
    }

    public int count(int what) {
        if (isWithin(what, FIRST_SETTING_COUNT, FIRST_SETTING_COUNT + SETTINGS - 1)) {
            return table.setting(what - FIRST_SETTING_COUNT);
        }
        if (isWithin(what, FIRST_ACCOUNT_COUNT, FIRST_ACCOUNT_COUNT + ACCOUNTS - 1)) {
            return table.bowls.account(what - FIRST_ACCOUNT_COUNT);
        }
        switch (what) {
            case 0: return table.time();
            case 1: return table.bowls.size();
            case 2: return table.piece.size();
            case 3: return table.piece.phrases(table.setting(GAP));
            case 4: return table.piece.playedNotes();
            case 5: return table.piece.notesWith(Piece.CLEAN);
            case 6: return table.piece.notesWith(Piece.SILENT);
            case 7: return history.size();
            case 8: return text.length();
            default: return INVALID_ARGUMENT;
        }
    }

    public int undo() {
        if (history.size() == 0) {
            return NOT_POSSIBLE;
        }
        history.restore(table);
        return history.size();
    }

    // ---- piece

    public int note(int time, int pitch) {
        if (!isWithin(time, 0, LAST_SECOND) || !isWithin(pitch, 0, HIGHEST_PITCH)) {
            return INVALID_ARGUMENT;
        }
        if (table.piece.hasNoteAt(time)) {
            return NOT_POSSIBLE;
        }
        if (table.piece.isFull()) {
            return LIMIT_REACHED;
        }
        history.record(table);
        return table.piece.insert(time, pitch);
    }

    public int drop(int note) {
        if (!table.piece.has(note)) {
            return INVALID_ARGUMENT;
        }
        history.record(table);
        table.piece.takeAway(note);
        return table.piece.size();
    }

    public int transpose(int from, int to, int cents) {
        if (!table.piece.has(from) || !table.piece.has(to) || to < from
                || !isWithin(cents, -HIGHEST_PITCH, HIGHEST_PITCH) || cents == 0) {
            return INVALID_ARGUMENT;
        }
        if (!table.piece.canShift(from, to, cents)) {
            return NOT_POSSIBLE;
        }
        history.record(table);
        table.piece.shift(from, to, cents);
        return to - from + 1;
    }

    public int noteOf(int note, int what) {
        if (!table.piece.has(note)) {
            return INVALID_ARGUMENT;
        }
        return table.piece.property(note, what, table.setting(GAP));
    }

    public int run(int seconds) {
        if (!isWithin(seconds, 1, LONGEST_RUN)) {
            return INVALID_ARGUMENT;
        }
        int end = table.time() + seconds;
        if (end > LAST_SECOND) {
            return LIMIT_REACHED;
        }
        history.record(table);
        return table.advance(end);
    }

    public int rewind() {
        history.record(table);
        int before = table.time();
        table.startAgain();
        return before;
    }

    public int worst(int place) {
        if (place < 0) {
            return INVALID_ARGUMENT;
        }
        return orNotFound(table.piece.noteAtRank(place));
    }

    // ---- questions (nothing changes)

    public int wouldBe(int note) {
        if (!table.piece.has(note)) {
            return INVALID_ARGUMENT;
        }
        int time = table.piece.timeOf(note);
        if (time <= table.time()) {
            return NOT_POSSIBLE;
        }
        if (table.bowls.size() == 0) {
            return NOT_FOUND;
        }
        tryOut(time);
        return trial.piece.errorOf(note);
    }

    public int firstFalse() {
        tryOut(LAST_SECOND);
        return orNotFound(trial.piece.firstFalseAfter(table.time()));
    }

    public int leastTolerance() {
        tryOut(LAST_SECOND);
        return orNotFound(trial.piece.greatestErrorAfter(table.time()));
    }

    public int pitchAt(int bowl, int time) {
        if (!table.bowls.has(bowl) || !isWithin(time, table.time(), LAST_SECOND)) {
            return INVALID_ARGUMENT;
        }
        tryOut(time);
        return trial.bowls.pitchOf(bowl);
    }

    // ---- texts

    public int type(int character) {
        if (!isWithin(character, 32, 126)) {
            return INVALID_ARGUMENT;
        }
        if (text.length() >= MOST_CHARACTERS) {
            return LIMIT_REACHED;
        }
        text.append(character);
        return text.length();
    }

    public int clearText() {
        int before = text.length();
        text.empty();
        return before;
    }

    public int fault(int what) {
        if (!isWithin(what, 0, 1)) {
            return INVALID_ARGUMENT;
        }
        tryText();
        if (text.faultReason() == Text.NO_FAULT) {
            return NOT_FOUND;
        }
        return what == 0 ? text.faultPlace() : text.faultReason();
    }

    public int enter() {
        tryText();
        if (text.faultReason() != Text.NO_FAULT) {
            return NOT_POSSIBLE;
        }
        history.record(table);
        table.copyFrom(trial);
        return text.notesRead();
    }

    // ---- helpers

    private static boolean isWithin(int value, int least, int most) {
        return value >= least && value <= most;
    }

    private static boolean isSetting(int what, int value) {
        switch (what) {
            case DRYING: return isWithin(value, 1, 600);
            case GAP: return isWithin(value, 1, 600);
            case TOLERANCE: return isWithin(value, 0, 600);
            case FILLING: return isWithin(value, 0, 1);
            default: return false;
        }
    }

    private static int orNotFound(int value) {
        return value == NONE ? NOT_FOUND : value;
    }

    private static int oneIf(boolean holds) {
        return holds ? 1 : 0;
    }

    /** Plays on the trial table what would come up to a time, if nothing else were done. */
    private void tryOut(int end) {
        trial.copyFrom(table);
        trial.advance(end);
    }

    /** Reads the text into the trial table, so that its notes also meet those ahead of them in it. */
    private void tryText() {
        trial.copyFrom(table);
        text.readInto(trial.piece);
    }

    /** Numbers behind a guard: an index outside reads 0 and writes nothing, so that no access can throw. */
    private static final class Row {
        private final int[] cells;

        Row(int length) {
            cells = new int[Math.max(length, 0)];
        }

        int get(int index) {
            return index >= 0 && index < cells.length ? cells[index] : 0;
        }

        void put(int index, int value) {
            if (index >= 0 && index < cells.length) {
                cells[index] = value;
            }
        }

        void add(int index, int amount) {
            put(index, get(index) + amount);
        }

        /** Puts a value between others; size is how many cells were in use before. */
        void insert(int index, int value, int size) {
            for (int i = size; i > index; i--) {
                put(i, get(i - 1));
            }
            put(index, value);
        }

        /** Closes the gap of a value that goes; size is how many cells were in use before. */
        void delete(int index, int size) {
            for (int i = index; i < size - 1; i++) {
                put(i, get(i + 1));
            }
        }

        void copyFrom(Row other) {
            if (other != null) {
                System.arraycopy(other.cells, 0, cells, 0, Math.min(other.cells.length, cells.length));
            }
        }
    }

    /** The bowls in the order of their numbers, and the accounts of all their water. */
    private static final class Bowls {
        /** The square of a level's range: what the quotient of a pitch is divided by. */
        private static final long FULL_SQUARE = 1000000L;

        private final Row base = new Row(MOST_BOWLS);
        private final Row depth = new Row(MOST_BOWLS);
        private final Row level = new Row(MOST_BOWLS);
        private final Row mark = new Row(MOST_BOWLS);
        private final Row crack = new Row(MOST_BOWLS);
        private int size = 0;
        private int poured = 0;
        private int dried = 0;
        private int lost = 0;
        private int takenOut = 0;

        int size() {
            return size;
        }

        boolean has(int bowl) {
            return bowl >= 0 && bowl < size;
        }

        int levelIn(int bowl) {
            return level.get(bowl);
        }

        void append(int itsBase, int itsDepth) {
            base.put(size, itsBase);
            depth.put(size, itsDepth);
            level.put(size, 0);
            mark.put(size, 0);
            crack.put(size, MOST_DROPS);
            size++;
        }

        void takeAway(int bowl) {
            takenOut += level.get(bowl);
            base.delete(bowl, size);
            depth.delete(bowl, size);
            level.delete(bowl, size);
            mark.delete(bowl, size);
            crack.delete(bowl, size);
            size--;
        }

        void addWater(int bowl, int drops) {
            poured += drops;
            hold(bowl, level.get(bowl) + drops);
        }

        void takeWater(int bowl, int drops) {
            takenOut += drops;
            level.add(bowl, -drops);
        }

        void moveCrack(int bowl, int itsCrack) {
            crack.put(bowl, itsCrack);
            hold(bowl, level.get(bowl));
        }

        int moveMark(int bowl, int itsMark) {
            int before = mark.get(bowl);
            mark.put(bowl, itsMark);
            return before;
        }

        /** Every level that may rise above a crack is set here, so that what is lost is counted once. */
        private void hold(int bowl, int drops) {
            int stays = Math.min(drops, crack.get(bowl));
            lost += drops - stays;
            level.put(bowl, stays);
        }

        void fillToMarks() {
            for (int i = 0; i < size; i++) {
                int missing = mark.get(i) - level.get(i);
                if (missing > 0) {
                    poured += missing;
                    hold(i, mark.get(i));
                }
            }
        }

        void dry(int drops) {
            for (int i = 0; i < size; i++) {
                int loss = Math.min(level.get(i), drops);
                dried += loss;
                level.add(i, -loss);
            }
        }

        int property(int bowl, int what) {
            switch (what) {
                case 0: return base.get(bowl);
                case 1: return depth.get(bowl);
                case 2: return level.get(bowl);
                case 3: return mark.get(bowl);
                case 4: return crack.get(bowl);
                case 5: return pitchOf(bowl);
                case 6: return pitchWith(bowl, Math.min(mark.get(bowl), crack.get(bowl)));
                default: return INVALID_ARGUMENT;
            }
        }

        int pitchOf(int bowl) {
            return pitchWith(bowl, level.get(bowl));
        }

        /** In long, because the greatest depth times the greatest level squared is above every int. */
        private int pitchWith(int bowl, int drops) {
            long lower = (long) depth.get(bowl) * drops * drops / FULL_SQUARE;
            return base.get(bowl) - (int) lower;
        }

        int nearestLevel(int bowl, int pitch) {
            int best = 0;
            int bestDistance = Math.abs(pitchWith(bowl, best) - pitch);
            int highest = crack.get(bowl);
            for (int drops = 1; drops <= highest; drops++) {
                int distance = Math.abs(pitchWith(bowl, drops) - pitch);
                if (distance < bestDistance) {
                    best = drops;
                    bestDistance = distance;
                }
            }
            return best;
        }

        int nearestBowl(int pitch) {
            int best = NONE;
            int bestDistance = 0;
            for (int i = 0; i < size; i++) {
                int distance = Math.abs(pitchWith(i, level.get(i)) - pitch);
                if (best == NONE || distance < bestDistance) {
                    best = i;
                    bestDistance = distance;
                }
            }
            return best;
        }

        int account(int what) {
            switch (what) {
                case 0: return poured;
                case 1: return inBowls();
                case 2: return dried;
                case 3: return lost;
                case 4: return takenOut;
                default: return INVALID_ARGUMENT;
            }
        }

        private int inBowls() {
            int sum = 0;
            for (int i = 0; i < size; i++) {
                sum += level.get(i);
            }
            return sum;
        }

        void copyFrom(Bowls other) {
            if (other == null) {
                return;
            }
            base.copyFrom(other.base);
            depth.copyFrom(other.depth);
            level.copyFrom(other.level);
            mark.copyFrom(other.mark);
            crack.copyFrom(other.crack);
            size = other.size;
            poured = other.poured;
            dried = other.dried;
            lost = other.lost;
            takenOut = other.takenOut;
        }
    }

    /** The notes in the order of their times, and what came of those that were played. */
    private static final class Piece {
        static final int NOT_PLAYED = 0;
        static final int SILENT = 1;
        static final int FALSE = 2;
        static final int CLEAN = 3;

        private final Row time = new Row(MOST_NOTES);
        private final Row pitch = new Row(MOST_NOTES);
        private final Row outcome = new Row(MOST_NOTES);
        private final Row bowl = new Row(MOST_NOTES);
        private final Row error = new Row(MOST_NOTES);
        private int size = 0;

        int size() {
            return size;
        }

        boolean has(int note) {
            return note >= 0 && note < size;
        }

        boolean isFull() {
            return size >= MOST_NOTES;
        }

        int timeOf(int note) {
            return time.get(note);
        }

        int pitchOf(int note) {
            return pitch.get(note);
        }

        int errorOf(int note) {
            return error.get(note);
        }

        private int placeFor(int itsTime) {
            int place = 0;
            while (place < size && time.get(place) < itsTime) {
                place++;
            }
            return place;
        }

        boolean hasNoteAt(int itsTime) {
            int place = placeFor(itsTime);
            return place < size && time.get(place) == itsTime;
        }

        int insert(int itsTime, int itsPitch) {
            int note = placeFor(itsTime);
            time.insert(note, itsTime, size);
            pitch.insert(note, itsPitch, size);
            outcome.insert(note, NOT_PLAYED, size);
            bowl.insert(note, 0, size);
            error.insert(note, 0, size);
            size++;
            return note;
        }

        void takeAway(int note) {
            time.delete(note, size);
            pitch.delete(note, size);
            outcome.delete(note, size);
            bowl.delete(note, size);
            error.delete(note, size);
            size--;
        }

        boolean canShift(int from, int to, int cents) {
            for (int i = from; i <= to; i++) {
                if (!isWithin(pitch.get(i) + cents, 0, HIGHEST_PITCH)) {
                    return false;
                }
            }
            return true;
        }

        void shift(int from, int to, int cents) {
            for (int i = from; i <= to; i++) {
                pitch.add(i, cents);
            }
        }

        boolean beginsPhrase(int note, int gap) {
            return note == 0 || time.get(note) - time.get(note - 1) >= gap;
        }

        private int phraseOf(int note, int gap) {
            int phrase = NONE;
            for (int i = 0; i <= note; i++) {
                if (beginsPhrase(i, gap)) {
                    phrase++;
                }
            }
            return phrase;
        }

        int phrases(int gap) {
            return phraseOf(size - 1, gap) + 1;
        }

        void keepSilence(int note) {
            outcome.put(note, SILENT);
        }

        void keepSound(int note, int itsBowl, int itsError, boolean clean) {
            outcome.put(note, clean ? CLEAN : FALSE);
            bowl.put(note, itsBowl);
            error.put(note, itsError);
        }

        void forgetPlaying() {
            for (int i = 0; i < size; i++) {
                outcome.put(i, NOT_PLAYED);
            }
        }

        private boolean sounded(int note) {
            return outcome.get(note) == FALSE || outcome.get(note) == CLEAN;
        }

        int notesWith(int itsOutcome) {
            int notes = 0;
            for (int i = 0; i < size; i++) {
                if (outcome.get(i) == itsOutcome) {
                    notes++;
                }
            }
            return notes;
        }

        int playedNotes() {
            return size - notesWith(NOT_PLAYED);
        }

        int property(int note, int what, int gap) {
            switch (what) {
                case 0: return time.get(note);
                case 1: return pitch.get(note);
                case 2: return phraseOf(note, gap);
                case 3: return oneIf(outcome.get(note) != NOT_PLAYED);
                case 4: return sounded(note) ? bowl.get(note) : NOT_FOUND;
                case 5: return sounded(note) ? error.get(note) : NOT_FOUND;
                case 6: return sounded(note) ? oneIf(outcome.get(note) == CLEAN) : NOT_FOUND;
                default: return INVALID_ARGUMENT;
            }
        }

        private int errorSize(int note) {
            return Math.abs(error.get(note));
        }

        int noteAtRank(int rank) {
            for (int i = 0; i < size; i++) {
                if (sounded(i) && rankOf(i) == rank) {
                    return i;
                }
            }
            return NONE;
        }

        /** How many notes stand ahead of this one, from the greatest error down. */
        private int rankOf(int note) {
            int ahead = 0;
            for (int i = 0; i < size; i++) {
                boolean greater = errorSize(i) > errorSize(note);
                boolean sameButLower = errorSize(i) == errorSize(note) && i < note;
                if (sounded(i) && (greater || sameButLower)) {
                    ahead++;
                }
            }
            return ahead;
        }

        int firstFalseAfter(int second) {
            for (int i = 0; i < size; i++) {
                if (time.get(i) > second && outcome.get(i) == FALSE) {
                    return i;
                }
            }
            return NONE;
        }

        int greatestErrorAfter(int second) {
            int greatest = NONE;
            for (int i = 0; i < size; i++) {
                if (time.get(i) > second && sounded(i)) {
                    greatest = Math.max(greatest, errorSize(i));
                }
            }
            return greatest;
        }

        void copyFrom(Piece other) {
            if (other == null) {
                return;
            }
            time.copyFrom(other.time);
            pitch.copyFrom(other.pitch);
            outcome.copyFrom(other.outcome);
            bowl.copyFrom(other.bowl);
            error.copyFrom(other.error);
            size = other.size;
        }
    }

    /** All that a state of the history holds: everything but the text. */
    private static final class Table {
        private final Bowls bowls = new Bowls();
        private final Piece piece = new Piece();
        private final Row settings = new Row(SETTINGS);
        private int time = 0;

        Table() {
            settings.put(DRYING, 60);
            settings.put(GAP, 10);
            settings.put(TOLERANCE, 10);
            settings.put(FILLING, 0);
        }

        int time() {
            return time;
        }

        int setting(int what) {
            return settings.get(what);
        }

        int changeSetting(int what, int value) {
            int before = settings.get(what);
            settings.put(what, value);
            return before;
        }

        void startAgain() {
            time = 0;
            piece.forgetPlaying();
        }

        /** Goes from note to note, because between two of them the bowls do nothing but dry. */
        int advance(int end) {
            int played = 0;
            for (int i = 0; i < piece.size(); i++) {
                int itsTime = piece.timeOf(i);
                if (itsTime > time && itsTime <= end) {
                    dryUntil(itsTime);
                    playNote(i);
                    played++;
                }
            }
            dryUntil(end);
            return played;
        }

        private void dryUntil(int second) {
            int drying = settings.get(DRYING);
            if (drying > 0) {
                bowls.dry(second / drying - time / drying);
            }
            time = second;
        }

        private void playNote(int note) {
            if (settings.get(FILLING) == 1 && piece.beginsPhrase(note, settings.get(GAP))) {
                bowls.fillToMarks();
            }
            int bowl = bowls.nearestBowl(piece.pitchOf(note));
            if (bowl == NONE) {
                piece.keepSilence(note);
            } else {
                int error = bowls.pitchOf(bowl) - piece.pitchOf(note);
                piece.keepSound(note, bowl, error, Math.abs(error) <= settings.get(TOLERANCE));
            }
        }

        void copyFrom(Table other) {
            if (other == null) {
                return;
            }
            bowls.copyFrom(other.bowls);
            piece.copyFrom(other.piece);
            settings.copyFrom(other.settings);
            time = other.time;
        }
    }

    /** The latest states in a ring of tables that are made once and used again. */
    private static final class History {
        private final Table[] states = new Table[MOST_STATES];
        private int next = 0;
        private int size = 0;

        History() {
            for (int i = 0; i < states.length; i++) {
                states[i] = new Table();
            }
        }

        int size() {
            return size;
        }

        private Table stateAt(int index) {
            return index >= 0 && index < states.length ? states[index] : null;
        }

        void record(Table table) {
            Table state = stateAt(next);
            if (state != null) {
                state.copyFrom(table);
            }
            next = (next + 1) % MOST_STATES;
            size = Math.min(size + 1, MOST_STATES);
        }

        void restore(Table table) {
            next = (next + MOST_STATES - 1) % MOST_STATES;
            size = Math.max(size - 1, 0);
            if (table != null) {
                table.copyFrom(stateAt(next));
            }
        }
    }

    /** The text, and what the last reading of it found. */
    private static final class Text {
        static final int NO_FAULT = 0;
        static final int NOT_OF_THE_FORM = 1;
        static final int OUT_OF_RANGE = 2;
        static final int TIME_TAKEN = 3;
        static final int NO_ROOM = 4;

        private final Row characters = new Row(MOST_CHARACTERS);
        private int length = 0;
        private int place = 0;
        private int time = 0;
        private int pitch = 0;
        private int notesRead = 0;
        private int faultPlace = 0;
        private int faultReason = NO_FAULT;

        int length() {
            return length;
        }

        int notesRead() {
            return notesRead;
        }

        int faultPlace() {
            return faultPlace;
        }

        int faultReason() {
            return faultReason;
        }

        void append(int character) {
            characters.put(length, character);
            length++;
        }

        /** Leaves zeros, so that a reading which goes past the end meets nothing that a note is made of. */
        void empty() {
            for (int i = 0; i < length; i++) {
                characters.put(i, 0);
            }
            length = 0;
        }

        /** Adds the notes of the text to a piece, up to the first one that is not possible. */
        void readInto(Piece piece) {
            place = 0;
            notesRead = 0;
            faultReason = NO_FAULT;
            if (piece == null) {
                return;
            }
            for (int i = 0; i < MOST_CHARACTERS && place < length && faultReason == NO_FAULT; i++) {
                faultPlace = place;
                faultReason = reasonAgainstNext(piece);
                if (faultReason == NO_FAULT) {
                    piece.insert(time, pitch);
                    notesRead++;
                }
            }
        }

        private int reasonAgainstNext(Piece piece) {
            if (!readNote()) {
                return NOT_OF_THE_FORM;
            }
            if (time > LAST_SECOND || pitch > HIGHEST_PITCH) {
                return OUT_OF_RANGE;
            }
            if (piece.hasNoteAt(time)) {
                return TIME_TAKEN;
            }
            return piece.isFull() ? NO_ROOM : NO_FAULT;
        }

        private boolean readNote() {
            time = readNumber();
            if (time == NONE || !readCharacter(':')) {
                return false;
            }
            pitch = readNumber();
            return pitch != NONE && readCharacter(';');
        }

        private int readNumber() {
            int value = NONE;
            for (int i = 0; i < MOST_DIGITS && isWithin(characters.get(place), '0', '9'); i++) {
                value = Math.max(value, 0) * 10 + characters.get(place) - '0';
                place++;
            }
            return value;
        }

        private boolean readCharacter(int character) {
            boolean found = characters.get(place) == character;
            place++;
            return found;
        }
    }
}
