import java.io.IOException;
import java.lang.reflect.Constructor;
import java.lang.reflect.Field;
import java.lang.reflect.Method;
import java.lang.reflect.Modifier;
import java.nio.charset.StandardCharsets;
import java.nio.file.Files;
import java.nio.file.Path;
import java.util.Set;
import java.util.TreeSet;
import java.util.regex.Pattern;

/** The public face of the document, and those rules of LANGUAGE.md that a look at the class and its text can tell. */
public final class FaceTest {
    private static final Set<String> METHODS = Set.of(
        "int pipe(int,int,int)", "int leak(int,int)", "int told(int,int)", "int dial(int,int,int)", "int puff()",
        "int drift(int)", "long sight()", "long now(int)", "int look(int)", "int state(int,int)", "int put(int,int)",
        "int right(int)", "int round(int)", "int ahead(int)", "int mark(int,int)", "int explains(int,int)",
        "int next()", "int feed(long,int)", "int contracts()", "int fault()", "int owes(int)", "int kind(int)",
        "int as(int,int)", "int ask(int,int)", "int trace(int)", "int count(int)");
    private static final Set<String> CONSTANTS = Set.of("NONE", "BAD", "STATE", "FULL", "KIND");

    public static void main(String[] args) throws IOException {
        theClass();
        theConstants();
        theMethods();
        theClassesInside();
        theText();
        Due.end();
    }

    private static void theClass() {
        int m = TownClocks.class.getModifiers();
        Due.holds("the class is public and final", Modifier.isPublic(m) && Modifier.isFinal(m));
        Constructor<?>[] made = TownClocks.class.getDeclaredConstructors();
        Due.holds("one constructor, public, without parameters",
            made.length == 1 && Modifier.isPublic(made[0].getModifiers()) && made[0].getParameterCount() == 0);
    }

    private static void theConstants() {
        Due.due("NONE", TownClocks.NONE, -1000000);
        Due.due("BAD", TownClocks.BAD, -1000001);
        Due.due("STATE", TownClocks.STATE, -1000002);
        Due.due("FULL", TownClocks.FULL, -1000003);
        Due.due("KIND", TownClocks.KIND, -1000004);
        Set<String> seen = new TreeSet<>();
        for (Field f : TownClocks.class.getDeclaredFields()) {
            int m = f.getModifiers();
            if (!Modifier.isPrivate(m)) {
                seen.add(f.getName());
                Due.holds(f.getName() + " is a public constant",
                    Modifier.isPublic(m) && Modifier.isStatic(m) && Modifier.isFinal(m));
            }
            Due.holds(f.getName() + " is final if it is static", !Modifier.isStatic(m) || Modifier.isFinal(m));
        }
        Due.holds("no constants but the document's", seen.equals(CONSTANTS));
    }

    private static void theMethods() {
        Set<String> seen = new TreeSet<>();
        Set<String> names = new TreeSet<>();
        for (Method method : TownClocks.class.getDeclaredMethods()) {
            if (!Modifier.isPrivate(method.getModifiers())) {
                Due.holds(method.getName() + " is public and no static one",
                    Modifier.isPublic(method.getModifiers()) && !Modifier.isStatic(method.getModifiers()));
                seen.add(signature(method));
                names.add(method.getName());
            }
        }
        Due.holds("just the document's methods: " + seen, seen.equals(METHODS));
        for (Method method : TownClocks.class.getDeclaredMethods()) {
            Due.holds("no private method is named " + method.getName(),
                !Modifier.isPrivate(method.getModifiers()) || !names.contains(method.getName()));
            Due.holds(method.getName() + " has at most seven parameters", method.getParameterCount() <= 7);
        }
    }

    private static String signature(Method method) {
        StringBuilder s = new StringBuilder(method.getReturnType().getName());
        s.append(' ').append(method.getName()).append('(');
        for (Class<?> type : method.getParameterTypes()) {
            s.append(s.charAt(s.length() - 1) == '(' ? "" : ",").append(type.getName());
        }
        return s.append(')').toString();
    }

    private static void theClassesInside() {
        Class<?>[] inside = TownClocks.class.getDeclaredClasses();
        Due.holds("at most some twelve classes", inside.length < 12);
        for (Class<?> c : inside) {
            int m = c.getModifiers();
            Due.holds(c.getName() + " is static and not public",
                Modifier.isStatic(m) && !Modifier.isPublic(m) && !Modifier.isProtected(m));
            Due.holds(c.getName() + " has at most some twenty fields", c.getDeclaredFields().length <= 20);
        }
    }

    private static void theText() throws IOException {
        String text = Files.readString(Path.of("src/main/java/TownClocks.java"), StandardCharsets.UTF_8);
        String[] banned = {"->", "::", "\\bcatch\\b", "\\btry\\b", "\\bfinally\\b", "\\bsynchronized\\b", "\\bassert\\b",
            "\\bpackage\\b", "\\bstatic\\s*\\{", "Exact\\(", "\\bSystem\\.(?!arraycopy)", "\\bRandom\\b", "\\bThread\\b",
            "\\.BYTES\\b", "\\bimport (?!java\\.util\\.(ArrayList|Arrays);)"};
        for (String b : banned) {
            Due.holds("the text has no " + b, !Pattern.compile(b).matcher(text).find());
        }
        int from = text.indexOf("public TownClocks() {");
        Due.holds("the constructor stands in the text", from >= 0);
        String constructor = text.substring(Math.max(from, 0), text.indexOf("    }", Math.max(from, 0)));
        Due.holds("rule 12: the constructor hands out nothing of the object that it makes",
            !Pattern.compile("new \\w+(<\\w*>)?\\([^)]|\\bthis\\b").matcher(constructor).find());
        theLengthsOfMethods(text);
    }

    /** Members of the class stand at four blanks, those of the classes inside at eight; so do the ends of them. */
    private static void theLengthsOfMethods(String text) {
        String[] lines = text.split("\n");
        for (String indent : new String[] {"    ", "        "}) {
            int begun = -1;
            for (int i = 0; i < lines.length; i++) {
                if (lines[i].matches(indent + "[a-z].*\\) \\{")) {
                    begun = i;
                } else if (lines[i].equals(indent + "}") && begun >= 0) {
                    Due.holds("rule 11: line " + (begun + 1) + " begins a short method", i - begun < 60);
                    begun = -1;
                }
            }
        }
    }
}
