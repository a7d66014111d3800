import java.util.ArrayList;
import java.util.List;
import java.util.regex.Matcher;
import java.util.regex.Pattern;

/** The document told a second time, second by second and with whole copies, to compare answers with. */
final class PlainBowls {
    static final class Refused extends RuntimeException {
        private static final long serialVersionUID = 1L;
        final int code;

        Refused(int code) {
            super(null, null, false, false);
            this.code = code;
        }
    }

    private static final class Bowl implements Cloneable {
        int base, depth, level, mark, crack = 1000;

        int pitchAt(int drops) {
            return (int) (base - Math.floorDiv((long) depth * drops * drops, 1000000L));
        }

        @Override
        public Bowl clone() {
            try {
                return (Bowl) super.clone();
            } catch (CloneNotSupportedException e) {
                throw new IllegalStateException(e);
            }
        }
    }

    private static final class Note implements Cloneable {
        int time, pitch;
        boolean played, clean;
        Integer bowl, error;

        @Override
        public Note clone() {
            try {
                return (Note) super.clone();
            } catch (CloneNotSupportedException e) {
                throw new IllegalStateException(e);
            }
        }
    }

    private static final class State {
        final List<Bowl> bowls = new ArrayList<>();
        final List<Note> notes = new ArrayList<>();
        int[] settings = {60, 10, 10, 0};
        int[] accounts = new int[5];
        int time;

        State copy() {
            State s = new State();
            for (Bowl b : bowls) {
                s.bowls.add(b.clone());
            }
            for (Note n : notes) {
                s.notes.add(n.clone());
            }
            s.settings = settings.clone();
            s.accounts = accounts.clone();
            s.time = time;
            return s;
        }

        void pour(Bowl b, int drops) {
            accounts[0] += drops;
            b.level += drops;
            crack(b);
        }

        int crack(Bowl b) {
            int lost = Math.max(0, b.level - b.crack);
            b.level -= lost;
            accounts[3] += lost;
            return lost;
        }

        boolean begins(int i) {
            return i == 0 || notes.get(i).time - notes.get(i - 1).time >= settings[1];
        }

        int nearest(int pitch) {
            int best = -1;
            for (int i = bowls.size() - 1; i >= 0; i--) {
                if (best < 0 || distance(i, pitch) <= distance(best, pitch)) {
                    best = i;
                }
            }
            return best;
        }

        private int distance(int bowl, int pitch) {
            Bowl b = bowls.get(bowl);
            return Math.abs(b.pitchAt(b.level) - pitch);
        }

        int second() {
            time++;
            if (time % settings[0] == 0) {
                for (Bowl b : bowls) {
                    if (b.level > 0) {
                        b.level--;
                        accounts[2]++;
                    }
                }
            }
            for (int i = 0; i < notes.size(); i++) {
                if (notes.get(i).time == time) {
                    play(i);
                    return 1;
                }
            }
            return 0;
        }

        private void play(int i) {
            Note n = notes.get(i);
            n.played = true;
            if (settings[3] == 1 && begins(i)) {
                for (Bowl b : bowls) {
                    if (b.level < b.mark) {
                        pour(b, b.mark - b.level);
                    }
                }
            }
            int which = nearest(n.pitch);
            if (which >= 0) {
                Bowl b = bowls.get(which);
                n.bowl = which;
                n.error = b.pitchAt(b.level) - n.pitch;
                n.clean = Math.abs(n.error) <= settings[2];
            }
        }
    }

    private State now = new State();
    private final List<State> history = new ArrayList<>();
    private String text = "";

    private static void need(boolean holds, int code) {
        if (!holds) {
            throw new Refused(code);
        }
    }

    private static void range(int value, int least, int most) {
        need(value >= least && value <= most, Due.INVALID);
    }

    private Bowl bowlNumber(int bowl) {
        range(bowl, 0, now.bowls.size() - 1);
        return now.bowls.get(bowl);
    }

    private Note noteNumber(int note) {
        range(note, 0, now.notes.size() - 1);
        return now.notes.get(note);
    }

    private void record() {
        history.add(now.copy());
        if (history.size() > 5) {
            history.remove(0);
        }
    }

    /** Calls by name; a name with its arguments is what the comparing test makes up. */
    int call(String name, int a, int b, int c) {
        try {
            switch (name) {
                case "bowl": return bowl(a, b);
                case "remove": return remove(a);
                case "pour": return pour(a, b);
                case "spill": return spill(a, b);
                case "crack": return crack(a, b);
                case "mark": return mark(a, b);
                case "bowlOf": return bowlOf(a, b);
                case "levelFor": return levelFor(a, b);
                case "nearest": return nearest(a);
                case "set": return set(a, b);
                case "count": return count(a);
                case "undo": return undo();
                case "note": return note(a, b);
                case "drop": return drop(a);
                case "transpose": return transpose(a, b, c);
                case "noteOf": return noteOf(a, b);
                case "run": return run(a);
                case "rewind": return rewind();
                case "worst": return worst(a);
                case "wouldBe": return wouldBe(a);
                case "firstFalse": return firstFalse();
                case "leastTolerance": return leastTolerance();
                case "pitchAt": return pitchAt(a, b);
                case "type": return type(a);
                case "clearText": return clearText();
                case "fault": return fault(a);
                case "enter": return enter();
                default: throw new IllegalArgumentException(name);
            }
        } catch (Refused r) {
            return r.code;
        }
    }

    private int bowl(int base, int depth) {
        range(base, 0, 6000);
        range(depth, 1, 2400);
        need(now.bowls.size() < 10, Due.LIMIT);
        record();
        Bowl b = new Bowl();
        b.base = base;
        b.depth = depth;
        now.bowls.add(b);
        return now.bowls.size() - 1;
    }

    private int remove(int bowl) {
        Bowl b = bowlNumber(bowl);
        record();
        now.accounts[4] += b.level;
        now.bowls.remove(bowl);
        return now.bowls.size();
    }

    private int pour(int bowl, int drops) {
        Bowl b = bowlNumber(bowl);
        range(drops, 1, 1000);
        need(b.level + drops <= 1000, Due.LIMIT);
        record();
        now.pour(b, drops);
        return b.level;
    }

    private int spill(int bowl, int drops) {
        Bowl b = bowlNumber(bowl);
        range(drops, 1, 1000);
        need(b.level >= drops, Due.NOT_POSSIBLE);
        record();
        b.level -= drops;
        now.accounts[4] += drops;
        return b.level;
    }

    private int crack(int bowl, int level) {
        Bowl b = bowlNumber(bowl);
        range(level, 0, 1000);
        record();
        b.crack = level;
        return now.crack(b);
    }

    private int mark(int bowl, int level) {
        Bowl b = bowlNumber(bowl);
        range(level, 0, 1000);
        record();
        int before = b.mark;
        b.mark = level;
        return before;
    }

    private int bowlOf(int bowl, int what) {
        Bowl b = bowlNumber(bowl);
        range(what, 0, 6);
        int[] all = {b.base, b.depth, b.level, b.mark, b.crack, b.pitchAt(b.level),
            b.pitchAt(Math.min(b.mark, b.crack))};
        return all[what];
    }

    private int levelFor(int bowl, int pitch) {
        Bowl b = bowlNumber(bowl);
        range(pitch, -3000, 6000);
        int best = b.crack;
        for (int level = b.crack; level >= 0; level--) {
            if (Math.abs(b.pitchAt(level) - pitch) <= Math.abs(b.pitchAt(best) - pitch)) {
                best = level;
            }
        }
        return best;
    }

    private int nearest(int pitch) {
        range(pitch, 0, 6000);
        need(!now.bowls.isEmpty(), Due.NOT_FOUND);
        return now.nearest(pitch);
    }

    private int set(int what, int value) {
        range(what, 0, 3);
        int[] least = {1, 1, 0, 0};
        int[] most = {600, 600, 600, 1};
        range(value, least[what], most[what]);
        record();
        int before = now.settings[what];
        now.settings[what] = value;
        return before;
    }

    private int count(int what) {
        if (what >= 10 && what <= 13) {
            return now.settings[what - 10];
        }
        if (what == 21) {
            return now.accounts[0] - now.accounts[2] - now.accounts[3] - now.accounts[4];
        }
        if (what >= 20 && what <= 24) {
            return now.accounts[what - 20];
        }
        range(what, 0, 8);
        int phrases = 0;
        int played = 0;
        int clean = 0;
        int silent = 0;
        for (int i = 0; i < now.notes.size(); i++) {
            Note n = now.notes.get(i);
            phrases += now.begins(i) ? 1 : 0;
            played += n.played ? 1 : 0;
            clean += n.clean ? 1 : 0;
            silent += n.played && n.bowl == null ? 1 : 0;
        }
        int[] all = {now.time, now.bowls.size(), now.notes.size(), phrases, played, clean, silent, history.size(),
            text.length()};
        return all[what];
    }

    private int undo() {
        need(!history.isEmpty(), Due.NOT_POSSIBLE);
        now = history.remove(history.size() - 1);
        return history.size();
    }

    private static boolean taken(State s, int time) {
        return s.notes.stream().anyMatch(n -> n.time == time);
    }

    private static Note add(State s, int time, int pitch) {
        Note n = new Note();
        n.time = time;
        n.pitch = pitch;
        s.notes.add(n);
        s.notes.sort((p, q) -> p.time - q.time);
        return n;
    }

    private int note(int time, int pitch) {
        range(time, 0, 3600);
        range(pitch, 0, 6000);
        need(!taken(now, time), Due.NOT_POSSIBLE);
        need(now.notes.size() < 40, Due.LIMIT);
        record();
        return now.notes.indexOf(add(now, time, pitch));
    }

    private int drop(int note) {
        noteNumber(note);
        record();
        now.notes.remove(note);
        return now.notes.size();
    }

    private int transpose(int from, int to, int cents) {
        noteNumber(from);
        noteNumber(to);
        range(to, from, 39);
        range(cents, -6000, 6000);
        need(cents != 0, Due.INVALID);
        List<Note> those = now.notes.subList(from, to + 1);
        need(those.stream().allMatch(n -> n.pitch + cents >= 0 && n.pitch + cents <= 6000), Due.NOT_POSSIBLE);
        record();
        those.forEach(n -> n.pitch += cents);
        return those.size();
    }

    private int noteOf(int note, int what) {
        Note n = noteNumber(note);
        range(what, 0, 6);
        need(what < 4 || n.bowl != null, Due.NOT_FOUND);
        int phrase = -1;
        for (int i = 0; i <= note; i++) {
            phrase += now.begins(i) ? 1 : 0;
        }
        int[] all = {n.time, n.pitch, phrase, n.played ? 1 : 0, n.bowl == null ? 0 : n.bowl,
            n.error == null ? 0 : n.error, n.clean ? 1 : 0};
        return all[what];
    }

    private int run(int seconds) {
        range(seconds, 1, 600);
        need(now.time + seconds <= 3600, Due.LIMIT);
        record();
        int played = 0;
        for (int i = 0; i < seconds; i++) {
            played += now.second();
        }
        return played;
    }

    private int rewind() {
        record();
        int before = now.time;
        now.time = 0;
        for (Note n : now.notes) {
            n.played = false;
            n.clean = false;
            n.bowl = null;
            n.error = null;
        }
        return before;
    }

    private int worst(int place) {
        range(place, 0, Integer.MAX_VALUE);
        List<Note> those = new ArrayList<>(now.notes);
        those.removeIf(n -> n.error == null);
        those.sort((p, q) -> Math.abs(q.error) - Math.abs(p.error));
        need(place < those.size(), Due.NOT_FOUND);
        return now.notes.indexOf(those.get(place));
    }

    private State later(int time) {
        State s = now.copy();
        while (s.time < time) {
            s.second();
        }
        return s;
    }

    private int wouldBe(int note) {
        Note n = noteNumber(note);
        need(n.time > now.time, Due.NOT_POSSIBLE);
        need(!now.bowls.isEmpty(), Due.NOT_FOUND);
        return later(n.time).notes.get(note).error;
    }

    private int firstFalse() {
        State end = later(3600);
        for (int i = 0; i < end.notes.size(); i++) {
            Note n = end.notes.get(i);
            if (n.time > now.time && n.bowl != null && !n.clean) {
                return i;
            }
        }
        return Due.NOT_FOUND;
    }

    private int leastTolerance() {
        State end = later(3600);
        return end.notes.stream().filter(n -> n.time > now.time && n.error != null)
            .mapToInt(n -> Math.abs(n.error)).max().orElse(Due.NOT_FOUND);
    }

    private int pitchAt(int bowl, int time) {
        bowlNumber(bowl);
        range(time, now.time, 3600);
        Bowl b = later(time).bowls.get(bowl);
        return b.pitchAt(b.level);
    }

    private int type(int character) {
        range(character, 32, 126);
        need(text.length() < 100, Due.LIMIT);
        text += (char) character;
        return text.length();
    }

    private int clearText() {
        int before = text.length();
        text = "";
        return before;
    }

    private static final Pattern NOTE = Pattern.compile("([0-9]{1,4}):([0-9]{1,4});");

    /** Answers the place and the reason of the fault, or null, and how many notes were added. */
    private int[] read(State s, int[] added) {
        Matcher m = NOTE.matcher(text);
        for (int at = 0; at < text.length(); at = m.end()) {
            m.region(at, text.length());
            if (!m.lookingAt()) {
                return new int[] {at, 1};
            }
            int time = Integer.parseInt(m.group(1));
            int pitch = Integer.parseInt(m.group(2));
            if (time > 3600 || pitch > 6000) {
                return new int[] {at, 2};
            }
            if (taken(s, time)) {
                return new int[] {at, 3};
            }
            if (s.notes.size() == 40) {
                return new int[] {at, 4};
            }
            add(s, time, pitch);
            added[0]++;
        }
        return null;
    }

    private int fault(int what) {
        range(what, 0, 1);
        int[] fault = read(now.copy(), new int[1]);
        return fault == null ? Due.NOT_FOUND : fault[what];
    }

    private int enter() {
        State s = now.copy();
        int[] added = new int[1];
        need(read(s, added) == null, Due.NOT_POSSIBLE);
        record();
        now = s;
        return added[0];
    }

    int bowls() {
        return now.bowls.size();
    }

    int notes() {
        return now.notes.size();
    }

    int time() {
        return now.time;
    }

    int levelOf(int bowl) {
        return bowl >= 0 && bowl < bowls() ? now.bowls.get(bowl).level : 0;
    }

    int timeOf(int note) {
        return note >= 0 && note < notes() ? now.notes.get(note).time : 0;
    }
}
