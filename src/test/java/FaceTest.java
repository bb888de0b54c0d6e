import java.io.IOException;
import java.lang.reflect.Constructor;
import java.lang.reflect.Field;
import java.lang.reflect.Method;
import java.lang.reflect.Modifier;
import java.nio.file.Files;
import java.nio.file.Path;
import java.util.Arrays;
import java.util.Set;
import java.util.TreeSet;
import java.util.regex.Pattern;

/** The public face of the document, and those rules of LANGUAGE.md that can be read off the class. */
public final class FaceTest {
    private static final Due due = new Due("FaceTest");
    private static final Path SOURCE = Path.of("src/main/java/StreamChain.java");
    private static final Set<String> METHODS = Set.of("lead(int,int)", "fall(int)", "wish(int,int)",
        "epoch()", "bring(int,int)", "bringVote(int,int,int)", "flow(int)", "settle()",
        "propose(int,int,int,int,int)", "lie(int,int,int)", "pass(int,int,int)", "about(int,int)",
        "seen(int,int)", "votes(int,int)", "voted(int,int)", "reach(int,int)", "ledger(int,int)",
        "agree()", "count(int)");
    private static final String[] RULED_OUT = {"throw", "throws", "try", "catch", "synchronized", "assert",
        "->", "::", "hashCode", "toString", "@Override", "static \\{"};

    public static void main(String[] args) throws IOException {
        constants();
        methods();
        constructor();
        fields();
        classesInside();
        words();
        due.end();
    }

    private static void constants() {
        due.is("NONE", StreamChain.NONE, -1);
        due.is("BAD", StreamChain.BAD, -2);
        due.is("STATE", StreamChain.STATE, -3);
        due.is("FULL", StreamChain.FULL, -4);
    }

    private static void methods() {
        Set<String> found = new TreeSet<>();
        Set<String> names = new TreeSet<>();
        for (String method : METHODS) {
            names.add(method.substring(0, method.indexOf('(')));
        }
        for (Method method : StreamChain.class.getDeclaredMethods()) {
            if (Modifier.isPrivate(method.getModifiers())) {
                due.holds("no private method is named " + method.getName(), !names.contains(method.getName()));
            } else {
                due.holds(method + " is public", Modifier.isPublic(method.getModifiers()));
                due.holds(method + " answers an int", method.getReturnType() == int.class);
                due.holds(method + " is of an object", !Modifier.isStatic(method.getModifiers()));
                String types = Arrays.toString(method.getParameterTypes()).replaceAll("[\\[\\] ]", "");
                found.add(method.getName() + "(" + types + ")");
            }
        }
        due.holds("the public methods are those of the document: " + found, found.equals(METHODS));
    }

    private static void constructor() {
        Constructor<?>[] constructors = StreamChain.class.getDeclaredConstructors();
        due.is("constructors", constructors.length, 1);
        due.holds("it is public", Modifier.isPublic(constructors[0].getModifiers()));
        due.holds("it takes an int",
            Arrays.equals(constructors[0].getParameterTypes(), new Class<?>[] {int.class}));
        due.holds("the class is final", Modifier.isFinal(StreamChain.class.getModifiers()));
        due.holds("the class is public", Modifier.isPublic(StreamChain.class.getModifiers()));
    }

    private static void fields() {
        Set<String> face = Set.of("NONE", "BAD", "STATE", "FULL");
        for (Field field : StreamChain.class.getDeclaredFields()) {
            int modifiers = field.getModifiers();
            due.holds(field + " is public just if the document has it",
                Modifier.isPublic(modifiers) == face.contains(field.getName()));
            due.holds(field + " is private otherwise",
                Modifier.isPublic(modifiers) || Modifier.isPrivate(modifiers));
            due.holds(field + " is final if it is static",
                !Modifier.isStatic(modifiers) || Modifier.isFinal(modifiers));
        }
    }

    private static void classesInside() {
        for (Class<?> inside : StreamChain.class.getDeclaredClasses()) {
            due.holds(inside + " is static", Modifier.isStatic(inside.getModifiers()));
            due.holds(inside + " is not public", !Modifier.isPublic(inside.getModifiers()));
            due.holds(inside + " has some twenty fields", inside.getDeclaredFields().length <= 20);
        }
    }

    private static void words() throws IOException {
        String source = Files.readString(SOURCE);
        for (String word : RULED_OUT) {
            String edge = Character.isLetter(word.charAt(0)) ? "\\b" : "";
            due.holds("the source has no " + word, !Pattern.compile(edge + word + edge).matcher(source).find());
        }
    }
}
