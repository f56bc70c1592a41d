import java.lang.reflect.Field;
import java.lang.reflect.Method;
import java.lang.reflect.Modifier;
import java.nio.file.Files;
import java.nio.file.Path;
import java.util.Set;
import java.util.TreeSet;

/** The class has the document's face and no other visible member, and keeps clear of the words that LANGUAGE.md bars. */
public final class FaceTest {
    private static final String[] METHODS = {
        "feed(int)", "castle()", "fault()", "told(int)", "likely(int)", "test(int,int)", "servant(int,int)", "day(int)",
        "make(int)", "seal(boolean)", "smash()", "hire(int,boolean)", "buy(int,int,int)", "drift(int)", "undo()",
        "belief(int)", "liars(int)", "leastLiars(int)", "ruleOut(int,int,int)", "next()", "offer(int,int)",
        "both(int,int,int)", "worth(int,int)", "secret(int,int)", "hear(int,boolean)", "paid()", "ask()", "write(int)",
        "tear()", "judge()", "seed(int)", "keep(int)", "goBack(int)"};
    private static final String[] BARRED = {
        "\\bthrow\\b", "\\btry\\b", "\\bcatch\\b", "\\bsynchronized\\b", "\\bassert\\b", "\\bimport\\b", "\\bpackage\\b",
        "->", "::", "Exact\\b", "\\bprotected\\b", "\\bstatic\\s*\\{"};

    public static void main(String[] args) throws Exception {
        Check check = new Check("FaceTest");
        methods(check);
        fields(check);
        nested(check);
        source(check);
        check.end();
    }

    private static void methods(Check check) {
        Set<String> due = new TreeSet<>(Set.of(METHODS));
        Set<String> names = new TreeSet<>();
        for (String method : METHODS) {
            names.add(method.substring(0, method.indexOf('(')));
        }
        for (Method method : TurningWheel.class.getDeclaredMethods()) {
            if (Modifier.isPrivate(method.getModifiers())) {
                check.due("private " + method.getName(), names.contains(method.getName()) ? 1 : 0, 0);
                continue;
            }
            StringBuilder face = new StringBuilder(method.getName()).append('(');
            for (Class<?> type : method.getParameterTypes()) {
                face.append(face.charAt(face.length() - 1) == '(' ? "" : ",").append(type.getName());
            }
            face.append(')');
            check.due("public " + face, due.remove(face.toString()) ? 1 : 0, 1);
            check.due("int " + face, method.getReturnType() == int.class ? 1 : 0, 1);
            check.due("modifiers " + face, method.getModifiers(), Modifier.PUBLIC);
        }
        check.due("missing " + due, due.size(), 0);
        check.due("constructors", TurningWheel.class.getDeclaredConstructors().length, 1);
        check.due("class", TurningWheel.class.getModifiers(), Modifier.PUBLIC | Modifier.FINAL);
    }

    private static void fields(Check check) {
        Set<String> due = new TreeSet<>(Set.of("NONE", "UNKNOWN", "OUTSIDE", "NOT", "FULL"));
        for (Field field : TurningWheel.class.getDeclaredFields()) {
            if (!Modifier.isPrivate(field.getModifiers())) {
                check.due(field.getName(), due.remove(field.getName()) ? 1 : 0, 1);
            }
        }
        check.due("missing " + due, due.size(), 0);
        check.due("NONE", TurningWheel.NONE, -1);
        check.due("UNKNOWN", TurningWheel.UNKNOWN, -1000000001);
        check.due("OUTSIDE", TurningWheel.OUTSIDE, -1000000002);
        check.due("NOT", TurningWheel.NOT, -1000000003);
        check.due("FULL", TurningWheel.FULL, -1000000004);
    }

    private static void nested(Check check) {
        Class<?>[] classes = TurningWheel.class.getDeclaredClasses();
        check.due("at most twelve classes", classes.length <= 11 ? 1 : 0, 1);
        form(check, TurningWheel.class);
        for (Class<?> inside : classes) {
            form(check, inside);
            int modifiers = inside.getModifiers();
            check.due("static " + inside, Modifier.isStatic(modifiers) ? 1 : 0, 1);
            check.due("hidden " + inside, Modifier.isPublic(modifiers) || Modifier.isProtected(modifiers) ? 1 : 0, 0);
            check.due("fields of " + inside, inside.getDeclaredFields().length <= 20 ? 1 : 0, 1);
        }
    }

    /** What LANGUAGE.md says of every class: constants alone are static, no method takes more than seven, names are apart. */
    private static void form(Check check, Class<?> one) {
        Set<Class<?>> constants = Set.of(int.class, long.class, boolean.class, char.class, String.class,
            int[].class, long[].class, char[].class, byte[].class);
        for (Field field : one.getDeclaredFields()) {
            boolean fixed = Modifier.isFinal(field.getModifiers()) && constants.contains(field.getType());
            check.due(one + " static " + field.getName(), !Modifier.isStatic(field.getModifiers()) || fixed ? 1 : 0, 1);
        }
        for (Method method : one.getDeclaredMethods()) {
            check.due(one + " parameters of " + method.getName(), method.getParameterCount() <= 7 ? 1 : 0, 1);
            boolean apart = one == TurningWheel.class;
            for (String face : METHODS) {
                apart |= face.startsWith(method.getName() + "(");
            }
            check.due(one + " name " + method.getName(), apart == (one == TurningWheel.class) ? 1 : 0, 1);
        }
    }

    private static void source(Check check) throws Exception {
        String text = Files.readString(Path.of("src/main/java/TurningWheel.java"));
        String code = text.replaceAll("(?s)/\\*.*?\\*/", " ").replaceAll("//[^\n]*", " ");
        for (String barred : BARRED) {
            check.due("source with " + barred, java.util.regex.Pattern.compile(barred).matcher(code).find() ? 1 : 0, 0);
        }
        check.due("signs above 127", text.chars().filter(sign -> sign > 127).count(), 0);
    }
}
