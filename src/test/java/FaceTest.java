import java.io.IOException;
import java.lang.reflect.Constructor;
import java.lang.reflect.Field;
import java.lang.reflect.Method;
import java.lang.reflect.Modifier;
import java.nio.file.Files;
import java.nio.file.Path;
import java.util.ArrayList;
import java.util.Arrays;
import java.util.List;
import java.util.Set;
import java.util.TreeSet;
import java.util.regex.Matcher;
import java.util.regex.Pattern;

/** The public face is the document's and no more; and what of LANGUAGE.md a look at the class shows. */
public final class FaceTest {
    private static final Set<String> FACE = new TreeSet<>(Arrays.asList(
        "public static final int Reconcile.NONE",
        "public Reconcile()",
        "public int Reconcile.name(int)",
        "public void Reconcile.token(int,int,int)",
        "public void Reconcile.date(int,long,long)",
        "public int Reconcile.weight(int,long,long)",
        "public int Reconcile.run()",
        "public int Reconcile.pair(int,int)",
        "public long Reconcile.score(int,int) throws java.lang.ArithmeticException",
        "public int Reconcile.mutual(int)",
        "public int Reconcile.join(int,int)",
        "public int Reconcile.undo(int)",
        "public int Reconcile.sample(long,int)",
        "public int Reconcile.none(int)",
        "public int Reconcile.index(int,int) throws java.lang.ArrayIndexOutOfBoundsException",
        "public int Reconcile.best(int,int,int)"));

    /** What the document names; the second does not stand in rule 6, but the document asks for it. */
    private static final Set<String> THROWN = Set.of("ArithmeticException", "ArrayIndexOutOfBoundsException");

    public static void main(String[] args) throws IOException {
        Due.isTrue("the class is final", Modifier.isFinal(Reconcile.class.getModifiers()));
        Due.isTrue("the class is public", Modifier.isPublic(Reconcile.class.getModifiers()));
        Due.is("NONE", Reconcile.NONE, -1);
        membersAreTheFace();
        classesInsideAreStaticAndHidden();
        namesOfTheFaceStandOnce();
        classesStaySmall();
        textKeepsToTheRules(Files.readString(Path.of("src/main/java/Reconcile.java")));
        Due.end();
    }

    private static void membersAreTheFace() {
        Set<String> seen = new TreeSet<>();
        for (Field f : Reconcile.class.getDeclaredFields()) {
            addUnlessPrivate(seen, f.getModifiers(), f.toGenericString());
        }
        for (Method m : Reconcile.class.getDeclaredMethods()) {
            addUnlessPrivate(seen, m.getModifiers(), m.toGenericString());
        }
        for (Constructor<?> c : Reconcile.class.getDeclaredConstructors()) {
            addUnlessPrivate(seen, c.getModifiers(), c.toGenericString());
        }
        Due.isTrue("the face is " + seen, seen.equals(FACE));
    }

    private static void addUnlessPrivate(Set<String> seen, int modifiers, String text) {
        if (!Modifier.isPrivate(modifiers)) {
            seen.add(text);
        }
    }

    private static void classesInsideAreStaticAndHidden() {
        for (Class<?> c : Reconcile.class.getDeclaredClasses()) {
            int m = c.getModifiers();
            Due.isTrue(c + " is static", Modifier.isStatic(m));
            Due.isTrue(c + " is hidden", !Modifier.isPublic(m) && !Modifier.isProtected(m));
        }
    }

    private static void namesOfTheFaceStandOnce() {
        Set<String> names = new TreeSet<>();
        for (Method m : Reconcile.class.getMethods()) {
            if (m.getDeclaringClass() == Reconcile.class) {
                names.add(m.getName());
            }
        }
        Due.is("methods of the face", names.size(), 14);
        for (Method m : Reconcile.class.getDeclaredMethods()) {
            Due.isTrue(m + " has a name of its own", Modifier.isPublic(m.getModifiers()) || !names.contains(m.getName()));
        }
        for (Class<?> c : Reconcile.class.getDeclaredClasses()) {
            for (Method m : c.getDeclaredMethods()) {
                Due.isTrue(m + " has a name of its own", !names.contains(m.getName()));
            }
        }
    }

    /** Rules 5 and 11: no static state in any class, and few classes, fields and parameters. */
    private static void classesStaySmall() {
        List<Class<?>> classes = new ArrayList<>(Arrays.asList(Reconcile.class.getDeclaredClasses()));
        classes.add(Reconcile.class);
        Due.isTrue("classes, at most 12: " + classes.size(), classes.size() <= 12);
        for (Class<?> c : classes) {
            int fields = 0;
            for (Field f : c.getDeclaredFields()) {
                boolean isStatic = Modifier.isStatic(f.getModifiers());
                fields += isStatic ? 0 : 1;
                Due.isTrue(f + " is no static state", !isStatic || Modifier.isFinal(f.getModifiers()));
            }
            Due.isTrue(c + " has at most 20 fields: " + fields, fields <= 20);
            for (Method m : c.getDeclaredMethods()) {
                Due.isTrue(m + " takes at most 7 parameters", m.getParameterCount() <= 7);
            }
        }
    }

    private static void textKeepsToTheRules(String text) {
        String[] never = {"package ", "import ", "catch", "finally", "::", "->", "static {", "synchronized", "assert ",
            "Exact(", "hashCode", "Random", "Thread", "System.nano", "System.current", "System.getenv", "java.io",
            "java.nio", "java.net"};
        for (String word : never) {
            Due.isTrue("the text has no " + word, !text.contains(word));
        }
        Matcher thrown = Pattern.compile("throw new (\\w+)\\(").matcher(text);
        int count = 0;
        while (thrown.find()) {
            Due.isTrue("throws " + thrown.group(1), THROWN.contains(thrown.group(1)));
            count++;
        }
        Due.is("throw statements", count, 2);
    }
}
