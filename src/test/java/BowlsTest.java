/** Promises 1 to 11: a new object, the bowls, what they sound, and the settings. */
public final class BowlsTest {
    private static final int LEAST = Integer.MIN_VALUE;
    private static final int MOST = Integer.MAX_VALUE;
    private static final Due D = new Due("BowlsTest");

    public static void main(String[] args) {
        promise1NewObject();
        promise2Bowl();
        promise2Limit();
        promise3Remove();
        promise4Pour();
        promise4PourAboveTheCrack();
        promise5Spill();
        promise6Crack();
        promise7Mark();
        promise8BowlOf();
        promise8PitchIsRounded();
        promise8PitchAtTheMark();
        promise9LevelFor();
        promise9Plateaus();
        promise9EveryLevelAgainstASearch();
        promise10Nearest();
        promise11Set();
        D.end();
    }

    private static GlassBowls with(int base, int depth, int level) {
        GlassBowls x = new GlassBowls();
        x.bowl(base, depth);
        if (level > 0) {
            x.pour(0, level);
        }
        return x;
    }

    private static void promise1NewObject() {
        GlassBowls x = new GlassBowls();
        int[] numbers = {0, 1, 2, 3, 4, 5, 6, 7, 8, 20, 21, 22, 23, 24};
        for (int what : numbers) {
            D.due("new: count(" + what + ")", x.count(what), 0);
        }
        D.due("new: drying", x.count(10), 60);
        D.due("new: gap", x.count(11), 10);
        D.due("new: tolerance", x.count(12), 10);
        D.due("new: filling", x.count(13), 0);
        D.due("new: nearest", x.nearest(0), Due.NOT_FOUND);
        D.due("new: worst", x.worst(0), Due.NOT_FOUND);
        D.due("new: firstFalse", x.firstFalse(), Due.NOT_FOUND);
        D.due("new: leastTolerance", x.leastTolerance(), Due.NOT_FOUND);
        D.due("new: undo", x.undo(), Due.NOT_POSSIBLE);
        GlassBowls y = new GlassBowls();
        x.bowl(1, 1);
        D.due("two objects share nothing", y.count(1), 0);
    }

    private static void promise2Bowl() {
        GlassBowls x = new GlassBowls();
        int[][] wrong = {{-1, 1}, {6001, 1}, {0, 0}, {0, -1}, {0, 2401}, {LEAST, 1}, {MOST, 1}, {0, LEAST}, {0, MOST}};
        for (int[] w : wrong) {
            D.due("bowl(" + w[0] + ", " + w[1] + ")", x.bowl(w[0], w[1]), Due.INVALID);
        }
        D.due("no state for an error", x.count(7), 0);
        D.due("bowl(0, 1)", x.bowl(0, 1), 0);
        D.due("bowl(6000, 2400)", x.bowl(6000, 2400), 1);
        D.due("base", x.bowlOf(1, 0), 6000);
        D.due("depth", x.bowlOf(1, 1), 2400);
        D.due("level at first", x.bowlOf(1, 2), 0);
        D.due("mark at first", x.bowlOf(1, 3), 0);
        D.due("crack at first", x.bowlOf(1, 4), 1000);
        D.due("pitch at first", x.bowlOf(1, 5), 6000);
        D.due("bowls", x.count(1), 2);
        D.due("states", x.count(7), 2);
    }

    private static void promise2Limit() {
        GlassBowls x = new GlassBowls();
        for (int i = 0; i < 10; i++) {
            D.due("bowl " + i, x.bowl(100 * i, 100 + i), i);
        }
        D.due("an eleventh", x.bowl(1, 1), Due.LIMIT);
        D.due("an eleventh that is wrong", x.bowl(6001, 1), Due.INVALID);
        D.due("bowls", x.count(1), 10);
        D.due("base of the last one", x.bowlOf(9, 0), 900);
        x.pour(9, 10);
        x.mark(9, 20);
        x.crack(9, 30);
        x.remove(9);
        D.due("a tenth again", x.bowl(7, 8), 9);
        D.due("its level is new", x.bowlOf(9, 2), 0);
        D.due("its mark is new", x.bowlOf(9, 3), 0);
        D.due("its crack is new", x.bowlOf(9, 4), 1000);
    }

    private static void promise3Remove() {
        GlassBowls x = new GlassBowls();
        D.due("remove(0) of none", x.remove(0), Due.INVALID);
        for (int i = 0; i < 3; i++) {
            x.bowl(1000 * i, 10 + i);
            x.pour(i, 100 + i);
            x.mark(i, 200 + i);
            x.crack(i, 300 + i);
        }
        D.due("remove(-1)", x.remove(-1), Due.INVALID);
        D.due("remove(3)", x.remove(3), Due.INVALID);
        D.due("remove(least)", x.remove(LEAST), Due.INVALID);
        D.due("remove(most)", x.remove(MOST), Due.INVALID);
        D.due("remove(1)", x.remove(1), 2);
        int[] second = {2000, 12, 102, 202, 302};
        for (int what = 0; what < 5; what++) {
            D.due("the later one, " + what, x.bowlOf(1, what), second[what]);
        }
        D.due("the one before stays", x.bowlOf(0, 2), 100);
        D.due("taken out with it", x.count(24), 101);
        D.due("in the bowls", x.count(21), 202);
        D.due("poured", x.count(20), 303);
        D.due("remove the last one", x.remove(1), 1);
        D.due("remove the only one", x.remove(0), 0);
        D.due("all taken out", x.count(24), 303);
        D.due("no bowl is left", x.bowlOf(0, 0), Due.INVALID);
    }

    private static void promise4Pour() {
        GlassBowls x = with(3000, 1200, 0);
        int[] wrong = {0, -1, 1001, LEAST, MOST};
        for (int drops : wrong) {
            D.due("pour(0, " + drops + ")", x.pour(0, drops), Due.INVALID);
        }
        D.due("pour(1, 1)", x.pour(1, 1), Due.INVALID);
        D.due("pour(-1, 1)", x.pour(-1, 1), Due.INVALID);
        D.due("pour(0, 1)", x.pour(0, 1), 1);
        D.due("pour(0, 1000)", x.pour(0, 1000), Due.LIMIT);
        D.due("pour(0, 999)", x.pour(0, 999), 1000);
        D.due("pour(0, 1) in a full one", x.pour(0, 1), Due.LIMIT);
        D.due("pour(0, 1001) in a full one", x.pour(0, 1001), Due.INVALID);
        D.due("poured", x.count(20), 1000);
        D.due("in the bowls", x.count(21), 1000);
        D.due("lost", x.count(23), 0);
    }

    private static void promise4PourAboveTheCrack() {
        GlassBowls x = with(3000, 1200, 300);
        x.crack(0, 400);
        D.due("the limit is the rim, not the crack", x.pour(0, 701), Due.LIMIT);
        D.due("pour(0, 700)", x.pour(0, 700), 400);
        D.due("lost at once", x.count(23), 600);
        D.due("poured", x.count(20), 1000);
        D.due("in the bowls", x.count(21), 400);
        x.crack(0, 0);
        D.due("a crack at the ground", x.pour(0, 1000), 0);
        D.due("all lost", x.count(23), 2000);
    }

    private static void promise5Spill() {
        GlassBowls x = with(3000, 1200, 500);
        int[] wrong = {0, -1, 1001, LEAST, MOST};
        for (int drops : wrong) {
            D.due("spill(0, " + drops + ")", x.spill(0, drops), Due.INVALID);
        }
        D.due("spill(1, 1)", x.spill(1, 1), Due.INVALID);
        D.due("spill(-1, 1)", x.spill(-1, 1), Due.INVALID);
        D.due("spill(0, 501)", x.spill(0, 501), Due.NOT_POSSIBLE);
        D.due("spill(0, 1000)", x.spill(0, 1000), Due.NOT_POSSIBLE);
        D.due("spill(0, 1)", x.spill(0, 1), 499);
        D.due("spill(0, 499)", x.spill(0, 499), 0);
        D.due("spill of an empty one", x.spill(0, 1), Due.NOT_POSSIBLE);
        D.due("taken out", x.count(24), 500);
        D.due("in the bowls", x.count(21), 0);
        D.due("states: only of changes", x.count(7), 4);
    }

    private static void promise6Crack() {
        GlassBowls x = with(3000, 1200, 500);
        D.due("crack(1, 0)", x.crack(1, 0), Due.INVALID);
        D.due("crack(-1, 0)", x.crack(-1, 0), Due.INVALID);
        D.due("crack(0, -1)", x.crack(0, -1), Due.INVALID);
        D.due("crack(0, 1001)", x.crack(0, 1001), Due.INVALID);
        D.due("crack at the level", x.crack(0, 500), 0);
        D.due("crack one below", x.crack(0, 499), 1);
        D.due("the level then", x.bowlOf(0, 2), 499);
        D.due("crack(0, 100)", x.crack(0, 100), 399);
        D.due("crack that is higher", x.crack(0, 1000), 0);
        D.due("the level does not come back", x.bowlOf(0, 2), 100);
        D.due("the crack", x.bowlOf(0, 4), 1000);
        D.due("crack(0, 0)", x.crack(0, 0), 100);
        D.due("lost", x.count(23), 500);
        D.due("in the bowls", x.count(21), 0);
    }

    private static void promise7Mark() {
        GlassBowls x = with(3000, 1200, 500);
        D.due("mark(1, 0)", x.mark(1, 0), Due.INVALID);
        D.due("mark(-1, 0)", x.mark(-1, 0), Due.INVALID);
        D.due("mark(0, -1)", x.mark(0, -1), Due.INVALID);
        D.due("mark(0, 1001)", x.mark(0, 1001), Due.INVALID);
        D.due("mark(0, 1000)", x.mark(0, 1000), 0);
        D.due("mark(0, 0)", x.mark(0, 0), 1000);
        D.due("mark(0, 7)", x.mark(0, 7), 0);
        D.due("the mark", x.bowlOf(0, 3), 7);
        D.due("the level stays", x.bowlOf(0, 2), 500);
        x.crack(0, 100);
        D.due("a mark above the crack", x.mark(0, 900), 7);
        D.due("it stands", x.bowlOf(0, 3), 900);
    }

    private static void promise8BowlOf() {
        GlassBowls x = with(3000, 1200, 400);
        x.mark(0, 700);
        x.crack(0, 800);
        int[] properties = {3000, 1200, 400, 700, 800, 2808, 2412};
        for (int what = 0; what < properties.length; what++) {
            D.due("bowlOf(0, " + what + ")", x.bowlOf(0, what), properties[what]);
        }
        int[] wrong = {-1, 7, LEAST, MOST};
        for (int w : wrong) {
            D.due("bowlOf(0, " + w + ")", x.bowlOf(0, w), Due.INVALID);
            D.due("bowlOf of bowl 1 or " + w, x.bowlOf(w == 7 ? 1 : w, 0), Due.INVALID);
        }
    }

    private static void promise8PitchIsRounded() {
        D.due("1 * 999 * 999 / 1000000 is 0", with(10, 1, 999).bowlOf(0, 5), 10);
        D.due("1 * 1000 * 1000 / 1000000 is 1", with(10, 1, 1000).bowlOf(0, 5), 9);
        D.due("2400 * 999 * 999 / 1000000 is 2395", with(0, 2400, 999).bowlOf(0, 5), -2395);
        D.due("the deepest, full", with(0, 2400, 1000).bowlOf(0, 5), -2400);
        D.due("2400 * 947 * 947 / 1000000, near the greatest int", with(6000, 2400, 947).bowlOf(0, 5), 6000 - 2152);
        D.due("2399 * 980 * 980 / 1000000 is 2303.9996", with(6000, 2399, 980).bowlOf(0, 5), 6000 - 2303);
        D.due("2400 * 20 * 20 / 1000000 is 0", with(5, 2400, 20).bowlOf(0, 5), 5);
        D.due("2400 * 21 * 21 / 1000000 is 1", with(5, 2400, 21).bowlOf(0, 5), 4);
    }

    private static void promise8PitchAtTheMark() {
        GlassBowls x = with(3000, 1000, 0);
        D.due("mark 0", x.bowlOf(0, 6), 3000);
        x.mark(0, 900);
        D.due("mark below the crack", x.bowlOf(0, 6), 2190);
        x.crack(0, 500);
        D.due("crack below the mark", x.bowlOf(0, 6), 2750);
        x.crack(0, 900);
        D.due("crack at the mark", x.bowlOf(0, 6), 2190);
    }

    private static void promise9LevelFor() {
        GlassBowls x = with(3000, 1200, 400);
        D.due("levelFor(1, 0)", x.levelFor(1, 0), Due.INVALID);
        D.due("levelFor(-1, 0)", x.levelFor(-1, 0), Due.INVALID);
        D.due("levelFor(0, -3001)", x.levelFor(0, -3001), Due.INVALID);
        D.due("levelFor(0, 6001)", x.levelFor(0, 6001), Due.INVALID);
        D.due("levelFor(0, 6000)", x.levelFor(0, 6000), 0);
        D.due("levelFor(0, 2500)", x.levelFor(0, 2500), 646);
        D.due("levelFor(0, -3000)", x.levelFor(0, -3000), 1000);
        x.crack(0, 645);
        D.due("only up to the crack", x.levelFor(0, 1800), 645);
        x.crack(0, 0);
        D.due("a crack at the ground", x.levelFor(0, 1800), 0);
        D.due("it changes nothing", x.count(7), 4);
    }

    private static void promise9Plateaus() {
        GlassBowls x = with(100, 1, 0);
        D.due("the lowest of all at 100", x.levelFor(0, 100), 0);
        D.due("just the full one at 99", x.levelFor(0, 99), 1000);
        GlassBowls y = with(100, 2, 0);
        D.due("the lowest level at 99", y.levelFor(0, 99), 708);
        GlassBowls z = with(0, 2400, 0);
        D.due("below 0, between -2395 and -2400", z.levelFor(0, -2397), 999);
        D.due("as near to both: the lower level", with(6000, 2000, 0).levelFor(0, 6000 - 1998), 999);
    }

    private static void promise9EveryLevelAgainstASearch() {
        int[][] bowls = {{3000, 1200}, {0, 2400}, {6000, 7}, {50, 1}, {1234, 999}};
        int[] cracks = {1000, 333};
        for (int[] bowl : bowls) {
            for (int crack : cracks) {
                GlassBowls x = with(bowl[0], bowl[1], 0);
                x.crack(0, crack);
                for (int pitch = -3000; pitch <= 6000; pitch += 37) {
                    D.due("levelFor(0, " + pitch + ")", x.levelFor(0, pitch), search(bowl, crack, pitch));
                }
            }
        }
    }

    /** From the crack down, so that of several the lowest one is kept last. */
    private static int search(int[] bowl, int crack, int pitch) {
        int best = crack;
        long least = Long.MAX_VALUE;
        for (int level = crack; level >= 0; level--) {
            long its = bowl[0] - Math.floorDiv((long) bowl[1] * level * level, 1000000L);
            if (Math.abs(its - pitch) <= least) {
                least = Math.abs(its - pitch);
                best = level;
            }
        }
        return best;
    }

    private static void promise10Nearest() {
        GlassBowls x = new GlassBowls();
        D.due("nearest(0) without bowls", x.nearest(0), Due.NOT_FOUND);
        D.due("nearest(-1) without bowls", x.nearest(-1), Due.INVALID);
        D.due("nearest(6001) without bowls", x.nearest(6001), Due.INVALID);
        x.bowl(3000, 1000);
        x.bowl(3100, 1000);
        x.bowl(3000, 500);
        D.due("nearest(0)", x.nearest(0), 0);
        D.due("nearest(6000)", x.nearest(6000), 1);
        D.due("as near to 0, 1 and 2", x.nearest(3050), 0);
        D.due("nearer to 1", x.nearest(3051), 1);
        x.pour(0, 1000);
        D.due("by the pitch, not the base", x.nearest(3000), 2);
        D.due("the full one", x.nearest(2000), 0);
        D.due("nearest(most)", x.nearest(MOST), Due.INVALID);
        D.due("nearest(least)", x.nearest(LEAST), Due.INVALID);
        x.set(3, 1);
        x.mark(2, 1000);
        D.due("now, not filled", x.nearest(3000), 2);
        GlassBowls y = with(0, 2400, 1000);
        D.due("pitches below 0 sound too", y.nearest(0), 0);
    }

    private static void promise11Set() {
        GlassBowls x = new GlassBowls();
        int[] first = {60, 10, 10, 0};
        int[] least = {1, 1, 0, 0};
        int[] most = {600, 600, 600, 1};
        for (int what = 0; what < 4; what++) {
            D.due("one too low: " + what, x.set(what, least[what] - 1), Due.INVALID);
            D.due("one too high: " + what, x.set(what, most[what] + 1), Due.INVALID);
            D.due("the first value: " + what, x.count(10 + what), first[what]);
            D.due("the least one: " + what, x.set(what, least[what]), first[what]);
            D.due("the greatest one: " + what, x.set(what, most[what]), least[what]);
            D.due("it stands: " + what, x.count(10 + what), most[what]);
        }
        for (int what = 0; what < 4; what++) {
            D.due("it still stands: " + what, x.count(10 + what), most[what]);
        }
        D.due("set(-1, 1)", x.set(-1, 1), Due.INVALID);
        D.due("set(4, 1)", x.set(4, 1), Due.INVALID);
        D.due("set(most, most)", x.set(MOST, MOST), Due.INVALID);
        D.due("set(least, least)", x.set(LEAST, LEAST), Due.INVALID);
        D.due("the same value again", x.set(0, 600), 600);
        GlassBowls y = new GlassBowls();
        y.set(2, 10);
        D.due("the same value is a change", y.count(7), 1);
    }
}
