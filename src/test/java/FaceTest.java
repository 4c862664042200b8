import java.lang.reflect.Constructor;
import java.lang.reflect.Field;
import java.lang.reflect.Method;
import java.lang.reflect.Modifier;
import java.util.Arrays;
import java.util.Set;
import java.util.TreeSet;

/** The public face: every member that the document shows, and no other one. */
public final class FaceTest {
    private static final String[] FACE = {
        "int append(int) IllegalArgumentException IllegalStateException",
        "int clearText()",
        "int errorPosition()",
        "int load() IllegalStateException",
        "int about(int) IllegalArgumentException",
        "int sheet(int,int) IndexOutOfBoundsException IllegalArgumentException",
        "int field(int,int) IndexOutOfBoundsException",
        "int drawnIn(int,int) IndexOutOfBoundsException IllegalArgumentException",
        "int printed(int,int) IndexOutOfBoundsException IllegalArgumentException",
        "int work(int,int) IndexOutOfBoundsException IllegalArgumentException",
        "int setting(int) IllegalArgumentException",
        "int draw(int) IndexOutOfBoundsException IllegalStateException",
        "int revise(int,int) IndexOutOfBoundsException IllegalArgumentException IllegalStateException",
        "int check(int) IndexOutOfBoundsException IllegalStateException",
        "int print(int,int) IndexOutOfBoundsException IllegalStateException",
        "int stamp(int,int) IndexOutOfBoundsException IllegalStateException",
        "int back(int) IndexOutOfBoundsException IllegalStateException",
        "int build(int,int) IndexOutOfBoundsException IllegalStateException",
        "int mend(int) IndexOutOfBoundsException IllegalStateException",
        "int run(int) IllegalArgumentException",
        "int set(int,int) IllegalArgumentException",
        "int undo() IllegalStateException",
        "int truePrint(int,int) IndexOutOfBoundsException",
        "int ifRevised(int,int,int) IndexOutOfBoundsException IllegalArgumentException IllegalStateException",
        "int coming(int) IllegalArgumentException",
        "int fetch(int) IllegalArgumentException",
        "int worst()",
        "int common(int,int) IndexOutOfBoundsException",
        "int runScript(int,long) IllegalArgumentException",
        "int simulate(long,int) IllegalArgumentException",
        "int save(int) IndexOutOfBoundsException",
        "int restore(int) IndexOutOfBoundsException IllegalStateException",
    };

    public static void main(String[] args) throws IllegalAccessException {
        methods();
        otherMembers();
        classesInside();
        Run.end("FaceTest");
    }

    private static void methods() {
        Set<String> seen = new TreeSet<>();
        Set<String> privateNames = new TreeSet<>();
        for (Method method : TrueSheets.class.getDeclaredMethods()) {
            if (Modifier.isPrivate(method.getModifiers())) {
                privateNames.add(method.getName());
            } else {
                Run.check(method + " is public alone", method.getModifiers(), Modifier.PUBLIC);
                seen.add(written(method));
            }
        }
        Run.check("the methods", seen, new TreeSet<>(Arrays.asList(FACE)));
        for (String method : FACE) {
            String name = method.substring(4, method.indexOf('('));
            Run.check("private " + name, privateNames.contains(name), false);
        }
    }

    private static String written(Method method) {
        StringBuilder text = new StringBuilder(method.getReturnType().getName() + " " + method.getName() + "(");
        for (Class<?> type : method.getParameterTypes()) {
            text.append(text.charAt(text.length() - 1) == '(' ? "" : ",").append(type.getName());
        }
        text.append(")");
        for (Class<?> type : method.getExceptionTypes()) {
            text.append(" ").append(type.getSimpleName());
        }
        return text.toString();
    }

    private static void otherMembers() throws IllegalAccessException {
        Run.check("the class", TrueSheets.class.getModifiers(), Modifier.PUBLIC | Modifier.FINAL);
        Constructor<?>[] constructors = TrueSheets.class.getDeclaredConstructors();
        Run.check("constructors", constructors.length, 1);
        Run.check("the constructor", constructors[0].toString(), "public TrueSheets()");
        for (Field field : TrueSheets.class.getDeclaredFields()) {
            if (field.getName().equals("NONE")) {
                Run.check("NONE", field.toString(), "public static final int TrueSheets.NONE");
                Run.check("its value", field.getInt(null), -1);
            } else {
                Run.check(field + " is private", Modifier.isPrivate(field.getModifiers()), true);
                Run.check(field + " is final", Modifier.isFinal(field.getModifiers()), true);
            }
        }
    }

    private static void classesInside() {
        Class<?>[] inside = TrueSheets.class.getDeclaredClasses();
        Run.check("few classes", inside.length <= 11, true);
        for (Class<?> one : inside) {
            Run.check(one + " is static", Modifier.isStatic(one.getModifiers()), true);
            Run.check(one + " is private", Modifier.isPrivate(one.getModifiers()), true);
            for (Field field : one.getDeclaredFields()) {
                boolean isChangingStatic = Modifier.isStatic(field.getModifiers()) && !Modifier.isFinal(field.getModifiers());
                Run.check(field + " is static and changes", isChangingStatic, false);
            }
        }
    }
}
