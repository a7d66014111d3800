import java.io.IOException;
import java.lang.reflect.Constructor;
import java.lang.reflect.Field;
import java.lang.reflect.Method;
import java.lang.reflect.Modifier;
import java.nio.file.Files;
import java.nio.file.Path;
import java.util.Arrays;
import java.util.Set;
import java.util.TreeSet;
import java.util.regex.Matcher;
import java.util.regex.Pattern;

/** The public face of the document, and the rules of LANGUAGE.md that can be seen from outside. */
public final class FaceTest {
    private static final Due D = new Due("FaceTest");
    private static final String SOURCE = "src/main/java/GlassBowls.java";
    private static final String[] CALLS = {"bowl 2", "remove 1", "pour 2", "spill 2", "crack 2", "mark 2", "bowlOf 2",
        "levelFor 2", "nearest 1", "set 2", "count 1", "undo 0", "note 2", "drop 1", "transpose 3", "noteOf 2", "run 1",
        "rewind 0", "worst 1", "wouldBe 1", "firstFalse 0", "leastTolerance 0", "pitchAt 2", "type 1", "clearText 0",
        "fault 1", "enter 0"};
    private static final String[] BANNED = {"throw", "throws", "try", "catch", "finally", "synchronized", "assert",
        "import", "package", "volatile", "native", "transient", "protected", "Object", "Thread", "Random", "Exception"};

    public static void main(String[] args) throws IOException {
        constants();
        calls();
        nothingElseIsOpen();
        noPrivateMethodBearsAPublicName();
        source();
        D.end();
    }

    private static void constants() {
        D.due("INVALID_ARGUMENT", GlassBowls.INVALID_ARGUMENT, -100001);
        D.due("NOT_POSSIBLE", GlassBowls.NOT_POSSIBLE, -100002);
        D.due("LIMIT_REACHED", GlassBowls.LIMIT_REACHED, -100003);
        D.due("NOT_FOUND", GlassBowls.NOT_FOUND, -100004);
    }

    private static Set<String> publicCalls() {
        Set<String> found = new TreeSet<>();
        for (Method m : GlassBowls.class.getDeclaredMethods()) {
            if (Modifier.isPublic(m.getModifiers())) {
                D.holds(m + " answers an int", m.getReturnType() == int.class && !Modifier.isStatic(m.getModifiers()));
                D.holds(m + " takes ints", Arrays.stream(m.getParameterTypes()).allMatch(t -> t == int.class));
                found.add(m.getName() + " " + m.getParameterCount());
            }
        }
        return found;
    }

    private static void calls() {
        D.holds("the calls are those of the document", publicCalls().equals(new TreeSet<>(Arrays.asList(CALLS))));
        D.holds("the class is public and final", Modifier.isPublic(GlassBowls.class.getModifiers())
            && Modifier.isFinal(GlassBowls.class.getModifiers()));
        Constructor<?>[] made = GlassBowls.class.getDeclaredConstructors();
        D.holds("one public constructor without arguments",
            made.length == 1 && Modifier.isPublic(made[0].getModifiers()) && made[0].getParameterCount() == 0);
    }

    private static void nothingElseIsOpen() {
        int open = 0;
        for (Field f : GlassBowls.class.getDeclaredFields()) {
            open += Modifier.isPrivate(f.getModifiers()) ? 0 : 1;
        }
        D.due("open fields", open, 4);
        for (Method m : GlassBowls.class.getDeclaredMethods()) {
            int how = m.getModifiers();
            D.holds(m + " is public or private", Modifier.isPublic(how) || Modifier.isPrivate(how));
        }
        for (Class<?> inside : GlassBowls.class.getDeclaredClasses()) {
            int how = inside.getModifiers();
            D.holds(inside + " is static and not open", Modifier.isStatic(how) && !Modifier.isPublic(how)
                && !Modifier.isProtected(how));
            for (Field f : inside.getDeclaredFields()) {
                D.holds(f + ": what is static is final",
                    !Modifier.isStatic(f.getModifiers()) || Modifier.isFinal(f.getModifiers()));
            }
        }
    }

    private static void noPrivateMethodBearsAPublicName() {
        Set<String> open = new TreeSet<>();
        for (String call : CALLS) {
            open.add(call.substring(0, call.indexOf(' ')));
        }
        for (Method m : GlassBowls.class.getDeclaredMethods()) {
            D.holds(m + " bears no public name", Modifier.isPublic(m.getModifiers()) || !open.contains(m.getName()));
        }
        for (Class<?> inside : GlassBowls.class.getDeclaredClasses()) {
            for (Method m : inside.getDeclaredMethods()) {
                D.holds(m + " bears no public name", !open.contains(m.getName()));
            }
        }
    }

    private static void source() throws IOException {
        String whole = Files.readString(Path.of(SOURCE));
        D.holds("only signs 1 to 127", whole.chars().allMatch(c -> c > 0 && c < 128));
        String code = whole.replaceAll("(?s)/\\*.*?\\*/", " ").replaceAll("//[^\n]*", " ");
        for (String word : BANNED) {
            D.holds("without " + word, !Pattern.compile("\\b" + word + "\\b").matcher(code).find());
        }
        D.holds("no lambda", !code.contains("->"));
        D.holds("no method reference", !code.contains("::"));
        D.holds("no text is joined or kept", !code.contains("\""));
        Matcher call = Pattern.compile("\\b(System|Math|Arrays|Integer|Long)\\.(\\w+)").matcher(code);
        Set<String> allowed = Set.of("System.arraycopy", "Math.abs", "Math.min", "Math.max");
        while (call.find()) {
            D.holds(call.group() + " is listed", allowed.contains(call.group()));
        }
    }
}
