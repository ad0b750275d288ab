import java.lang.reflect.Constructor;
import java.lang.reflect.Executable;
import java.lang.reflect.Field;
import java.lang.reflect.Method;
import java.lang.reflect.Modifier;
import java.util.StringJoiner;
import java.util.TreeSet;

/** The class must have the public face of ../shared/DOC.md and not a member more. */
final class FaceTest {
    private FaceTest() {
    }

    public static void main(String[] args) throws Exception {
        Check check = new Check("FaceTest");
        Class<?> face = CarriedNumbers.class;
        TreeSet<String> due = documented();
        check.same("the document's face has members", 1, due.size() > 30 ? 1 : 0);
        check.same("the face", String.join("\n", due), String.join("\n", found(face)));
        check.same("public and final", Modifier.PUBLIC | Modifier.FINAL, face.getModifiers());
        check.same("stands alone", "class java.lang.Object", face.getSuperclass().toString());
        for (Class<?> inside : face.getDeclaredClasses()) {
            boolean hidden = !Modifier.isPublic(inside.getModifiers());
            boolean fixed = Modifier.isStatic(inside.getModifiers());
            check.same(inside.getName() + " is hidden and static", 1, hidden && fixed ? 1 : 0);
        }
        check.end();
    }

    private static TreeSet<String> documented() throws Exception {
        TreeSet<String> lines = new TreeSet<>();
        for (String line : Doc.face()) {
            if (line.startsWith("    public ")) {
                lines.add(line.strip().replaceAll("(int|boolean) \\w+([,)])", "$1$2"));
            }
        }
        return lines;
    }

    private static TreeSet<String> found(Class<?> face) {
        TreeSet<String> lines = new TreeSet<>();
        for (Constructor<?> c : face.getDeclaredConstructors()) {
            addUnlessPrivate(lines, c, face.getSimpleName());
        }
        for (Method m : face.getDeclaredMethods()) {
            addUnlessPrivate(lines, m, m.getReturnType().getSimpleName() + " " + m.getName());
        }
        for (Field f : face.getDeclaredFields()) {
            if (!Modifier.isPrivate(f.getModifiers())) {
                lines.add(f.toString());
            }
        }
        return lines;
    }

    private static void addUnlessPrivate(TreeSet<String> lines, Executable member, String name) {
        if (Modifier.isPrivate(member.getModifiers()) || member.isSynthetic()) {
            return;
        }
        StringJoiner takes = new StringJoiner(", ", "(", ")");
        for (Class<?> type : member.getParameterTypes()) {
            takes.add(type.getSimpleName());
        }
        StringJoiner fails = new StringJoiner(", ", " throws ", "").setEmptyValue("");
        for (Class<?> type : member.getExceptionTypes()) {
            fails.add(type.getSimpleName());
        }
        lines.add(Modifier.toString(member.getModifiers()) + " " + name + takes + fails + ";");
    }
}
