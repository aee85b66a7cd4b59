import com.sun.management.ThreadMXBean;
import java.io.IOException;
import java.lang.management.ManagementFactory;
import java.lang.reflect.Constructor;
import java.lang.reflect.Field;
import java.lang.reflect.Method;
import java.lang.reflect.Modifier;
import java.nio.file.Files;
import java.nio.file.Path;
import java.util.Arrays;
import java.util.Set;
import java.util.TreeSet;
import java.util.regex.Matcher;
import java.util.regex.Pattern;

/** The public face, the rules of the language that can be seen from outside, and the room that a run takes. */
public final class FormTest {
    private static final String[] FACE = {"int program()", "int order(int,int,int)", "boolean change(int,int,int)",
        "int tell(int,int,int)", "int join(int,int,int,int,int)", "void part()", "int joined(int,int)",
        "int pack(int)", "int code(int,int)", "int bytes(int)", "int run(int,boolean,int)", "int ran(int)",
        "int had(int,int)", "int cost(boolean)", "int choose(int,boolean)", "int chosen(int,int)", "int take()",
        "int feed(int,int)", "int read()", "int count(int)", "boolean image(int)", "boolean again(int)"};

    private static final String SOURCE = "src/main/java/OrdersMadeOne.java";

    public static void main(String[] args) throws IOException {
        face();
        classesInside();
        source();
        room();
        Due.end();
    }

    private static String header(Method method) {
        StringBuilder text = new StringBuilder();
        for (Class<?> type : method.getParameterTypes()) {
            text.append(text.length() == 0 ? "" : ",").append(type.getSimpleName());
        }
        return method.getReturnType().getSimpleName() + " " + method.getName() + "(" + text + ")";
    }

    private static void face() {
        Set<String> want = new TreeSet<>(Arrays.asList(FACE));
        Set<String> names = new TreeSet<>();
        for (String one : FACE) {
            names.add(one.substring(one.indexOf(' ') + 1, one.indexOf('(')));
        }
        for (Method method : OrdersMadeOne.class.getDeclaredMethods()) {
            if (Modifier.isPrivate(method.getModifiers())) {
                Due.due("private " + method.getName() + " has a public name", names.contains(method.getName()), false);
            } else {
                Due.due("of the face: " + header(method), want.remove(header(method)), true);
                Due.due("public: " + header(method), method.getModifiers(), Modifier.PUBLIC);
            }
        }
        Due.due("missing " + want, want.size(), 0);
        Constructor<?>[] constructors = OrdersMadeOne.class.getDeclaredConstructors();
        Due.due("constructors", constructors.length, 1);
        Due.due("public constructor", constructors[0].getModifiers(), Modifier.PUBLIC);
        Due.due("public final", OrdersMadeOne.class.getModifiers(), Modifier.PUBLIC | Modifier.FINAL);
        for (Field field : OrdersMadeOne.class.getDeclaredFields()) {
            boolean isNone = field.getName().equals("NONE");
            Due.due("private: " + field.getName(), Modifier.isPrivate(field.getModifiers()), !isNone);
            Due.due("public: " + field.getName(), Modifier.isPublic(field.getModifiers()), isNone);
        }
    }

    private static void classesInside() {
        Class<?>[] inside = OrdersMadeOne.class.getDeclaredClasses();
        Due.due("at most twelve classes", inside.length < 12, true);
        for (Class<?> one : inside) {
            Due.due("static: " + one.getName(), Modifier.isStatic(one.getModifiers()), true);
            Due.due("without classes: " + one.getName(), one.getDeclaredClasses().length, 0);
            int fields = 0;
            for (Field field : one.getDeclaredFields()) {
                boolean isStatic = Modifier.isStatic(field.getModifiers());
                fields += isStatic ? 0 : 1;
                Due.due("final: " + field.getName(), !isStatic || Modifier.isFinal(field.getModifiers()), true);
            }
            Due.due("at most twenty fields: " + one.getName(), fields <= 20, true);
            for (Method method : one.getDeclaredMethods()) {
                Due.due("at most seven parameters: " + method.getName(), method.getParameterCount() <= 7, true);
            }
        }
    }

    private static void source() throws IOException {
        String text = Files.readString(Path.of(SOURCE));
        String code = text.replaceAll("(?s)/\\*.*?\\*/", "").replaceAll("//[^\n]*", "");
        Matcher left = Pattern.compile("\\b(throw|throws|try|catch|synchronized|assert|package|protected|volatile"
            + "|native|transient|Object|System\\.(?!arraycopy)\\w+|Thread|Random|\\w+Exact|\\w*Exception|equals"
            + "|hashCode|toString)\\b|->|::").matcher(code);
        while (left.find()) {
            Due.due("found " + left.group(), 1, 0);
        }
        Matcher imports = Pattern.compile("import ([^;]*);").matcher(code);
        while (imports.find()) {
            Due.due("import " + imports.group(1), imports.group(1).equals("java.util.Arrays"), true);
        }
    }

    /** The dearest calls, 512 times, make little: rows are made in constructors and used again. */
    private static void room() {
        ThreadMXBean bean = (ThreadMXBean) ManagementFactory.getThreadMXBean();
        long thread = Thread.currentThread().getId();
        OrdersMadeOne[] objects = new OrdersMadeOne[10];
        long before = bean.getThreadAllocatedBytes(thread);
        for (int k = 0; k < objects.length; k++) {
            objects[k] = new OrdersMadeOne();
            int filled = fill(objects[k]);
            for (int call = filled; call < 512; call++) {
                dearCall(objects[k], call);
            }
        }
        long each = (bean.getThreadAllocatedBytes(thread) - before) / objects.length;
        Due.due("a run of calls makes little: " + each + " bytes", each < 200_000, true);
    }

    /** How many calls that takes. */
    private static int fill(OrdersMadeOne x) {
        for (int program = 0; program < 3; program++) {
            x.program();
            for (int place = 0; place < 40; place++) {
                x.order(program, (place * 7 + program) % 9, 0);
            }
        }
        return 3 * 41;
    }

    private static void dearCall(OrdersMadeOne x, int call) {
        switch (call % 7) {
            case 0:
                x.choose(2, false);
                break;
            case 1:
                x.image(call % 3);
                break;
            case 2:
                x.again(call % 3);
                break;
            case 3:
                x.pack(call % 3);
                break;
            case 4:
                x.cost(true);
                break;
            case 5:
                x.read();
                break;
            default:
                x.run(call % 3, call % 2 == 0, 20000);
                break;
        }
    }
}
