import java.io.IOException;
import java.lang.reflect.Constructor;
import java.lang.reflect.Field;
import java.lang.reflect.Method;
import java.lang.reflect.Modifier;
import java.nio.file.Files;
import java.nio.file.Path;
import java.util.Set;
import java.util.TreeSet;
import java.util.regex.Pattern;

/** The public face, and the rules of LANGUAGE.md that can be read from the class or its text. Runs in the root. */
public final class FaceTest {
    private static final Path SOURCE = Path.of("src/main/java/LotRules.java");
    private static final String[] FACE = {
        "int item()", "int set(int, int, int)", "int need(int, int, int)", "int part(int, int, int)",
        "int make(int, int, int)", "int capacity(int, int)", "int over(int, int)", "int gross(int, int)",
        "long stock(int, int)", "int spoilt(int, int)", "int isSetUp(int, int)", "int stands(int)", "long time(int)",
        "long price(int)", "int faults()", "int fault(int, int)", "long best(int)", "int lot(int, int)",
        "long from(int, int)", "long share(int, int)"};
    /** What rules 2, 4, 6 and 13 leave out, as far as the program could come near it. */
    private static final String[] FORBIDDEN = {"->", "::", "\\bimport\\b", "\\bpackage\\b", "\\btry\\b", "\\bcatch\\b",
        "\\bfinally\\b", "\\bsynchronized\\b", "\\bassert\\b", "Exact\\(", "\\bSystem\\.(?!arraycopy)", "\\bstatic \\{",
        "\\bhashCode\\b", "\\btoString\\b", "\\.equals\\b", "\\bObject\\b", "\\bMath\\.random\\b"};

    private static final Check check = new Check();

    public static void main(String[] args) throws IOException {
        publicMethods();
        publicConstructorAndConstant();
        nothingElseIsVisible();
        classesInside();
        staticFieldsAreFinal();
        forbiddenWords();
        check.end("FaceTest");
    }

    private static String signature(Method m) {
        StringBuilder text = new StringBuilder();
        text.append(m.getReturnType().getSimpleName()).append(' ').append(m.getName()).append('(');
        for (int i = 0; i < m.getParameterCount(); i++) {
            text.append(i == 0 ? "" : ", ").append(m.getParameterTypes()[i].getSimpleName());
        }
        return text.append(')').toString();
    }

    private static void publicMethods() {
        Set<String> got = new TreeSet<>();
        for (Method m : LotRules.class.getDeclaredMethods()) {
            if (Modifier.isPublic(m.getModifiers())) {
                got.add(signature(m));
                check.holds(m.getName() + " is no static method", !Modifier.isStatic(m.getModifiers()));
                Class<?>[] thrown = m.getExceptionTypes();
                boolean named = thrown.length == 1 && thrown[0] == ArithmeticException.class;
                check.holds("throws of " + m.getName(), m.getName().equals("share") ? named : thrown.length == 0);
            }
        }
        check.holds("the methods of the face: " + got, got.equals(new TreeSet<>(Set.of(FACE))));
    }

    private static void publicConstructorAndConstant() {
        int modifiers = LotRules.class.getModifiers();
        check.holds("public and final", Modifier.isPublic(modifiers) && Modifier.isFinal(modifiers));
        check.holds("no class above", LotRules.class.getSuperclass() == Object.class);
        Constructor<?>[] made = LotRules.class.getDeclaredConstructors();
        check.same("constructors", made.length, 1);
        check.holds("the constructor is public", Modifier.isPublic(made[0].getModifiers()));
        check.holds("it takes an int", made[0].getParameterCount() == 1 && made[0].getParameterTypes()[0] == int.class);
        check.same("constants of the face", LotRules.class.getFields().length, 1);
        check.same("NOTHING", LotRules.NOTHING, Long.MIN_VALUE);
    }

    private static void nothingElseIsVisible() {
        Set<String> faceNames = new TreeSet<>();
        for (Method m : LotRules.class.getMethods()) {
            faceNames.add(m.getName());
        }
        for (Method m : LotRules.class.getDeclaredMethods()) {
            int modifiers = m.getModifiers();
            boolean hidden = Modifier.isPrivate(modifiers);
            check.holds(m.getName() + " is public or private", Modifier.isPublic(modifiers) || hidden);
            check.holds(m.getName() + " bears a name of its own", !(hidden && faceNames.contains(m.getName())));
        }
        for (Field f : LotRules.class.getDeclaredFields()) {
            boolean hidden = Modifier.isPrivate(f.getModifiers());
            check.holds(f.getName() + " is private", hidden || f.getName().equals("NOTHING"));
        }
    }

    private static void classesInside() {
        Class<?>[] inside = LotRules.class.getDeclaredClasses();
        check.holds("at most twelve classes", inside.length < 12);
        for (Class<?> c : inside) {
            int modifiers = c.getModifiers();
            check.holds(c.getName() + " is static", Modifier.isStatic(modifiers));
            boolean shown = Modifier.isPublic(modifiers) || Modifier.isProtected(modifiers);
            check.holds(c.getName() + " is not shown", !shown);
            for (Method m : c.getDeclaredMethods()) {
                check.holds(m.getName() + " takes at most seven", m.getParameterCount() <= 7);
            }
        }
    }

    private static void staticFieldsAreFinal() {
        check.holds("few fields", LotRules.class.getDeclaredFields().length < 60);
        for (Field f : LotRules.class.getDeclaredFields()) {
            int modifiers = f.getModifiers();
            check.holds(f.getName() + " is final", !Modifier.isStatic(modifiers) || Modifier.isFinal(modifiers));
        }
    }

    private static void forbiddenWords() throws IOException {
        String text = Files.readString(SOURCE);
        for (String word : FORBIDDEN) {
            check.holds("the text is without " + word, !Pattern.compile(word).matcher(text).find());
        }
        check.holds("characters 0 to 255 alone", text.chars().allMatch(c -> c <= 255));
        int thrown = text.split("\\bthrow new\\b", -1).length - 1;
        check.same("throws in the text (that of share)", thrown, 1);
    }
}
