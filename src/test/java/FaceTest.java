import java.lang.reflect.Constructor;
import java.lang.reflect.Field;
import java.lang.reflect.Method;
import java.lang.reflect.Modifier;
import java.util.Set;
import java.util.TreeSet;

/** The public face: every constant, constructor and method of the document, all public, and nothing else to be seen. */
public final class FaceTest {
    private static final String[] FACE = {
        "static final int NONE = -1", "static final int USER = 0", "static final int GROUP = 1",
        "static final int PROJECT = 2",
        "AllotmentLedger()",
        "int type(char) IllegalArgumentException IllegalStateException",
        "int back() IllegalStateException",
        "int clearPath()",
        "int makeProject() IllegalStateException",
        "int findProject()",
        "int moveProject(int) IndexOutOfBoundsException IllegalStateException",
        "char letterAt(int,int) IndexOutOfBoundsException",
        "int projects()",
        "int makeFile(int,int) IndexOutOfBoundsException IllegalStateException",
        "int write(int,int) IndexOutOfBoundsException IllegalArgumentException",
        "int delete(int) IndexOutOfBoundsException",
        "int moveFile(int,int) IndexOutOfBoundsException",
        "int reserve(int,int) IndexOutOfBoundsException IllegalArgumentException IllegalStateException",
        "int settle(int,int) IndexOutOfBoundsException IllegalArgumentException",
        "void setLimits(int,int,int,int,int) IndexOutOfBoundsException IllegalArgumentException",
        "int pass(int) IllegalArgumentException IllegalStateException",
        "int used(int,int) IndexOutOfBoundsException",
        "int filesOf(int,int) IndexOutOfBoundsException",
        "int usedByFiles(int,int) IndexOutOfBoundsException",
        "int grace(int,int) IndexOutOfBoundsException",
        "int room(int) IndexOutOfBoundsException",
        "int beginRecount()",
        "int recount(int) IllegalArgumentException IllegalStateException",
        "int counted(int,int) IndexOutOfBoundsException IllegalStateException",
    };

    public static void main(String[] args) throws IllegalAccessException {
        Check.due("the class is public and final", Modifier.PUBLIC | Modifier.FINAL,
                AllotmentLedger.class.getModifiers());
        Set<String> want = new TreeSet<String>(Set.of(FACE));
        Check.dueOutcome("the face", String.join("\n", want), String.join("\n", seen()));
        Check.end();
    }

    private static Set<String> seen() throws IllegalAccessException {
        Set<String> lines = new TreeSet<String>();
        for (Field field : AllotmentLedger.class.getDeclaredFields()) {
            if (!Modifier.isPrivate(field.getModifiers())) {
                lines.add(modifiers(field.getModifiers()) + field.getType() + " " + field.getName() + " = " + field.get(null));
            }
        }
        for (Constructor<?> constructor : AllotmentLedger.class.getDeclaredConstructors()) {
            lines.add(modifiers(constructor.getModifiers()) + constructor.getName()
                    + types(constructor.getParameterTypes()));
        }
        for (Method method : AllotmentLedger.class.getDeclaredMethods()) {
            if (!Modifier.isPrivate(method.getModifiers())) {
                lines.add(line(method));
            }
        }
        return lines;
    }

    private static String line(Method method) {
        StringBuilder line = new StringBuilder();
        line.append(modifiers(method.getModifiers())).append(method.getReturnType()).append(' ').append(method.getName());
        line.append(types(method.getParameterTypes()));
        for (Class<?> thrown : method.getExceptionTypes()) {
            line.append(' ').append(thrown.getSimpleName());
        }
        return line.toString();
    }

    /** All but "public", which every member of the face bears; one that bears it not is told as such. */
    private static String modifiers(int modifiers) {
        String all = Modifier.toString(modifiers);
        if (!all.startsWith("public")) {
            return "not public: " + all + " ";
        }
        return all.equals("public") ? "" : all.substring("public ".length()) + " ";
    }

    private static String types(Class<?>[] types) {
        StringBuilder names = new StringBuilder("(");
        for (int i = 0; i < types.length; i++) {
            names.append(i == 0 ? "" : ",").append(types[i].getSimpleName());
        }
        return names.append(')').toString();
    }
}
