import java.lang.reflect.Field;
import java.lang.reflect.Method;
import java.lang.reflect.Modifier;
import java.util.TreeSet;

/** The public face as the document writes it, and rules 1, 5 and 11 of the language as far as the class file shows them. */
public final class FaceTest {
    private static final String[] FACE = {
        "int addEnvelope(int, int) IllegalArgumentException IllegalStateException",
        "int setCap(int, int) IndexOutOfBoundsException IllegalArgumentException IllegalStateException",
        "int setRollover(int, int) IndexOutOfBoundsException IllegalArgumentException IllegalStateException",
        "int addRule(int, int, int) IndexOutOfBoundsException IllegalArgumentException IllegalStateException",
        "int removeRule(int) IndexOutOfBoundsException IllegalStateException",
        "int addLink(int, int, int, int) IndexOutOfBoundsException IllegalArgumentException IllegalStateException",
        "int removeLink(int) IndexOutOfBoundsException IllegalStateException",
        "int addItem(int, int, int, int) IndexOutOfBoundsException IllegalArgumentException IllegalStateException",
        "int removeItem(int) IndexOutOfBoundsException IllegalStateException",
        "int receive(int) IllegalArgumentException IllegalStateException",
        "int spend(int, int) IndexOutOfBoundsException IllegalArgumentException IllegalStateException",
        "int move(int, int, int) IndexOutOfBoundsException IllegalArgumentException IllegalStateException",
        "int advance(int) IllegalArgumentException IllegalStateException",
        "long envelope(int, int) IndexOutOfBoundsException IllegalArgumentException",
        "int rule(int, int) IndexOutOfBoundsException IllegalArgumentException",
        "int split(int, int) IndexOutOfBoundsException IllegalArgumentException",
        "long link(int, int) IndexOutOfBoundsException IllegalArgumentException",
        "int item(int, int) IndexOutOfBoundsException IllegalArgumentException",
        "long total(int) IllegalArgumentException",
        "double savedShare() ArithmeticException",
        "long forecast(int, int) IllegalArgumentException",
        "int daysUntil(int, int) IndexOutOfBoundsException IllegalArgumentException NoSuchElementException",
        "int spare(int, int) IndexOutOfBoundsException IllegalArgumentException",
        "int fork() IllegalStateException",
        "int select(int) NoSuchElementException",
        "int discard(int) NoSuchElementException IllegalStateException",
        "int merge(int) NoSuchElementException IllegalStateException UnsupportedOperationException",
        "int conflict(boolean) NoSuchElementException",
        "long branch(int, int) NoSuchElementException IllegalArgumentException",
        "long difference(int, int, int) NoSuchElementException IndexOutOfBoundsException",
        "int step(int, int) IndexOutOfBoundsException IllegalArgumentException",
        "int undo() IllegalStateException",
        "int dropStep(int) IndexOutOfBoundsException UnsupportedOperationException",
        "int clearReason()",
        "int feed(char) IllegalStateException",
        "int readPlan()",
        "int save()",
        "int restore() IllegalStateException",
    };

    public static void main(String[] args) {
        Checks.at("face");
        Class<?> face = EnvelopePlanner.class;
        Checks.same("the modifiers", Modifier.toString(face.getModifiers()), "public final");
        Checks.eq("the constructors", face.getDeclaredConstructors().length, 1);
        Checks.eq("the public constructors", face.getConstructors().length, 1);
        TreeSet<String> due = new TreeSet<>();
        TreeSet<String> names = new TreeSet<>();
        for (String method : FACE) {
            due.add(method);
            names.add(method.substring(method.indexOf(' ') + 1, method.indexOf('(')));
        }
        TreeSet<String> found = new TreeSet<>();
        for (Method method : face.getDeclaredMethods()) {
            if (Modifier.isPrivate(method.getModifiers())) {
                Checks.eq(method.getName() + " bears a public name", names.contains(method.getName()) ? 1 : 0, 0);
            } else {
                found.add(textOf(method));
            }
        }
        Checks.same("the face", String.join("\n", found), String.join("\n", due));
        fieldsOf(face);
        for (Class<?> inside : face.getDeclaredClasses()) {
            Checks.eq(inside.getName() + " is public", inside.getModifiers() & (Modifier.PUBLIC | Modifier.PROTECTED), 0);
            Checks.eq(inside.getName() + " is static", Modifier.isStatic(inside.getModifiers()) ? 1 : 0, 1);
            fieldsOf(inside);
            for (Method method : inside.getDeclaredMethods()) {
                Checks.eq(method.getName() + " bears a public name", names.contains(method.getName()) ? 1 : 0, 0);
                Checks.eq(method.getName() + " has too many parameters", method.getParameterCount() > 7 ? 1 : 0, 0);
            }
        }
        Checks.eq("too many classes inside", face.getDeclaredClasses().length > 12 ? 1 : 0, 0);
        Checks.finish();
    }

    private static void fieldsOf(Class<?> of) {
        int own = 0;
        for (Field field : of.getDeclaredFields()) {
            Checks.eq(field + " is private", Modifier.isPrivate(field.getModifiers()) ? 1 : 0, 1);
            if (Modifier.isStatic(field.getModifiers())) {
                Checks.eq(field + " is final", Modifier.isFinal(field.getModifiers()) ? 1 : 0, 1);
            } else {
                own++;
            }
        }
        Checks.eq("too many fields of " + of, own > 20 ? 1 : 0, 0);
    }

    private static String textOf(Method method) {
        StringBuilder text = new StringBuilder();
        if (!Modifier.toString(method.getModifiers()).equals("public")) {
            text.append(Modifier.toString(method.getModifiers())).append(" not public ");
        }
        text.append(method.getReturnType().getSimpleName()).append(" ").append(method.getName()).append("(");
        for (Class<?> parameter : method.getParameterTypes()) {
            text.append(text.charAt(text.length() - 1) == '(' ? "" : ", ").append(parameter.getSimpleName());
        }
        text.append(")");
        for (Class<?> thrown : method.getExceptionTypes()) {
            text.append(" ").append(thrown.getSimpleName());
        }
        return text.toString();
    }
}
