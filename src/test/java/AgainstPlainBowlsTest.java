import java.util.ArrayList;
import java.util.List;
import java.util.Random;

/** Long runs of made-up calls, each answered as PlainBowls answers it, with all that can be seen looked at in the end. */
public final class AgainstPlainBowlsTest {
    private static final int RUNS = 4000;
    private static final int CALLS = 512;
    private static final Due D = new Due("AgainstPlainBowlsTest");

    private static final String[] QUIET = {"bowlOf", "levelFor", "nearest", "count", "noteOf", "worst", "wouldBe",
        "firstFalse", "leastTolerance", "pitchAt", "fault"};
    private static final String[] LOUD = {"bowl", "bowl", "bowl", "remove", "pour", "pour", "pour", "spill", "crack",
        "mark", "mark", "set", "set", "undo", "undo", "note", "note", "note", "note", "note", "drop", "transpose",
        "run", "run", "run", "run", "rewind", "text", "enter", "clearText"};
    private static final int[] EDGES = {Integer.MIN_VALUE, Integer.MAX_VALUE, -6001, -6000, -3001, -3000, -1, 0, 1, 2,
        9, 10, 39, 40, 599, 600, 601, 999, 1000, 1001, 2400, 2401, 3599, 3600, 3601, 6000, 6001};

    private final Random random;
    private final GlassBowls x = new GlassBowls();
    private final PlainBowls plain = new PlainBowls();
    private final List<String> told = new ArrayList<>();
    private boolean quick;

    private AgainstPlainBowlsTest(int seed) {
        random = new Random(seed);
        quick = seed % 2 == 0;
    }

    public static void main(String[] args) {
        for (int seed = 0; seed < RUNS && !D.anyWrong(); seed++) {
            new AgainstPlainBowlsTest(seed).goThrough();
        }
        D.end();
    }

    private void goThrough() {
        int madeUp = 40 + upTo(440);
        while (told.size() < madeUp && !D.anyWrong()) {
            made(random.nextInt(3) == 0 ? QUIET[random.nextInt(QUIET.length)] : LOUD[random.nextInt(LOUD.length)]);
        }
        lookAtAll();
        if (D.anyWrong()) {
            System.out.println("the calls up to there: " + String.join(" ", told));
        }
    }

    private int upTo(int most) {
        return most < 1 || most == Integer.MAX_VALUE ? 0 : random.nextInt(most + 1);
    }

    /** Mostly of the range, now and then an edge of any range. */
    private int some(int least, int most) {
        return random.nextInt(12) == 0 ? EDGES[random.nextInt(EDGES.length)] : least + upTo(most - least);
    }

    private int someBowl() {
        return some(0, Math.max(0, plain.bowls() - 1));
    }

    private int someNote() {
        return some(0, Math.max(0, plain.notes() - 1));
    }

    private int someTime() {
        return random.nextBoolean() ? some(0, 3600) : some(plain.time(), Math.min(3600, plain.time() + 80));
    }

    private void made(String name) {
        int bowl = someBowl();
        int note = someNote();
        switch (name) {
            case "bowl": ask(name, some(0, 6000), some(1, 2400), 0); break;
            case "pour": ask(name, bowl, some(1, 1000 - plain.levelOf(bowl)), 0); break;
            case "spill": ask(name, bowl, some(1, Math.max(1, plain.levelOf(bowl))), 0); break;
            case "crack": ask(name, bowl, some(random.nextInt(900), 1000), 0); break;
            case "mark": ask(name, bowl, some(0, 1000), 0); break;
            case "bowlOf": ask(name, bowl, some(0, 6), 0); break;
            case "levelFor": ask(name, bowl, some(-3000, 6000), 0); break;
            case "nearest": ask(name, some(0, 6000), 0, 0); break;
            case "set": setting(); break;
            case "count": ask(name, some(0, 25), 0, 0); break;
            case "note": ask(name, someTime(), some(0, 6000), 0); break;
            case "transpose": ask(name, note, some(note, Math.max(note, plain.notes() - 1)), some(-300, 300)); break;
            case "noteOf": ask(name, note, some(0, 6), 0); break;
            case "run": ask(name, some(1, quick ? 600 : 60), 0, 0); break;
            case "worst": ask(name, some(0, 5), 0, 0); break;
            case "pitchAt": ask(name, bowl, someTime(), 0); break;
            case "fault": ask(name, some(0, 1), 0, 0); break;
            case "text": text(); break;
            case "remove": ask(name, bowl, 0, 0); break;
            case "drop": case "wouldBe": ask(name, note, 0, 0); break;
            default: ask(name, 0, 0, 0); break;
        }
    }

    private void setting() {
        int what = some(0, 3);
        ask("set", what, what == 3 ? some(0, 1) : some(0, random.nextBoolean() ? 30 : 600), 0);
    }

    private void text() {
        if (random.nextBoolean()) {
            ask("clearText", 0, 0, 0);
        }
        for (int i = random.nextInt(3); i >= 0; i--) {
            int time = random.nextInt(6) == 0 ? plain.timeOf(someNote()) : upTo(3700);
            write(time + ":" + upTo(6100) + ";");
        }
        if (random.nextInt(5) == 0) {
            ask("type", some(32, 126), 0, 0);
        }
        ask("fault", 0, 0, 0);
        ask("fault", 1, 0, 0);
    }

    private void write(String text) {
        for (int i = 0; i < text.length(); i++) {
            ask("type", text.charAt(i), 0, 0);
        }
    }

    /** As far as the calls reach that are promised of one object. */
    private void lookAtAll() {
        for (int what = 0; what <= 24; what++) {
            ask("count", what, 0, 0);
        }
        for (int bowl = 0; bowl <= plain.bowls(); bowl++) {
            for (int what = 0; what <= 6; what++) {
                ask("bowlOf", bowl, what, 0);
            }
        }
        for (int place = 0; place <= plain.notes(); place++) {
            int note = random.nextInt(plain.notes() + 1);
            for (int what = 0; what <= 6; what++) {
                ask("noteOf", note, what, 0);
            }
            ask("worst", place, 0, 0);
        }
    }

    private void ask(String name, int a, int b, int c) {
        if (told.size() < CALLS && !D.anyWrong()) {
            String call = name + "(" + a + ", " + b + ", " + c + ")";
            told.add(call);
            D.due(call, answer(name, a, b, c), plain.call(name, a, b, c));
        }
    }

    private int answer(String name, int a, int b, int c) {
        switch (name) {
            case "bowl": return x.bowl(a, b);
            case "remove": return x.remove(a);
            case "pour": return x.pour(a, b);
            case "spill": return x.spill(a, b);
            case "crack": return x.crack(a, b);
            case "mark": return x.mark(a, b);
            case "bowlOf": return x.bowlOf(a, b);
            case "levelFor": return x.levelFor(a, b);
            case "nearest": return x.nearest(a);
            case "set": return x.set(a, b);
            case "count": return x.count(a);
            case "undo": return x.undo();
            case "note": return x.note(a, b);
            case "drop": return x.drop(a);
            case "transpose": return x.transpose(a, b, c);
            case "noteOf": return x.noteOf(a, b);
            case "run": return x.run(a);
            case "rewind": return x.rewind();
            case "worst": return x.worst(a);
            case "wouldBe": return x.wouldBe(a);
            case "firstFalse": return x.firstFalse();
            case "leastTolerance": return x.leastTolerance();
            case "pitchAt": return x.pitchAt(a, b);
            case "type": return x.type(a);
            case "clearText": return x.clearText();
            case "fault": return x.fault(a);
            case "enter": return x.enter();
            default: throw new IllegalArgumentException(name);
        }
    }
}
