import java.lang.reflect.Constructor;
import java.lang.reflect.Field;
import java.lang.reflect.Method;
import java.lang.reflect.Modifier;
import java.util.Set;
import java.util.TreeSet;

/** The public face, and promise 1: a new object. */
public final class FaceTest {
    private static final Set<String> FACE = Set.of(
        "boolean write(char)", "int compile() IllegalStateException IllegalArgumentException", "int place()",
        "void role(int,int) IllegalArgumentException IllegalStateException",
        "void needs(int,int) IllegalArgumentException IllegalStateException",
        "int act(int,int,int,int,int) IllegalArgumentException IllegalStateException UnsupportedOperationException",
        "int send(int,int) IllegalArgumentException IllegalStateException", "int deliver(int)", "boolean lose(int)",
        "boolean crash(int)", "boolean ask(char)", "int query(int) IllegalArgumentException", "int result(int)",
        "int issue(int,int,int)",
        "int event(int,int)", "int skipped(int,int)", "int known(int,int,int)", "int clock(int)", "int messages()");

    public static void main(String[] args) {
        face();
        newObject();
        objectsAreApart();
        Check.end("FaceTest");
    }

    private static void face() {
        Class<?> c = IssueFold.class;
        Check.due("the class is public and final", c.getModifiers(), Modifier.PUBLIC | Modifier.FINAL);
        Set<String> methods = new TreeSet<>();
        for (Method m : c.getDeclaredMethods()) {
            if (!Modifier.isPrivate(m.getModifiers())) {
                Check.due(m.getName() + " is an object's", Modifier.isStatic(m.getModifiers()), false);
                methods.add(signature(m));
            }
        }
        Check.due("methods", methods, new TreeSet<>(FACE));
        for (Field f : c.getDeclaredFields()) {
            if (!Modifier.isPrivate(f.getModifiers())) {
                Check.due("the one field that is seen", f.getName(), "NONE");
            }
        }
        Constructor<?>[] constructors = c.getDeclaredConstructors();
        Check.due("constructors", constructors.length, 1);
        Check.due("parameters of it", constructors[0].getParameterCount(), 0);
        Check.due("NONE", IssueFold.NONE, -1);
    }

    private static String signature(Method m) {
        StringBuilder text = new StringBuilder(m.getReturnType().getName()).append(' ').append(m.getName()).append('(');
        for (int i = 0; i < m.getParameterCount(); i++) {
            text.append(i == 0 ? "" : ",").append(m.getParameterTypes()[i].getName());
        }
        text.append(')');
        for (Class<?> thrown : m.getExceptionTypes()) {
            text.append(' ').append(thrown.getSimpleName());
        }
        return text.toString();
    }

    private static void newObject() {
        IssueFold x = new IssueFold();
        Check.due("place", x.place(), -1);
        Check.due("messages", x.messages(), 0);
        Check.due("deliver", x.deliver(0), -1);
        Check.due("lose", x.lose(0), false);
        Check.due("result", x.result(0), -1);
        for (int place = 0; place < 3; place++) {
            Check.due("clock", x.clock(place), 0);
            Check.due("issue", x.issue(place, 0, 0), -1);
            Check.due("skipped", x.skipped(place, 0), -1);
            for (int origin = 0; origin < 3; origin++) {
                Check.due("known", x.known(place, origin, -1), 0);
                Check.due("view", x.known(place, origin, (place + 1) % 3), 0);
            }
            Check.due("query", x.query(place), 0);
        }
        Check.due("event", x.event(0, 0), -1);
        Check.illegalState("act without a workflow", () -> x.act(0, 0, 0, 0, 0));
        Check.illegalArgument("compile of nothing", x::compile);
        Check.due("place of nothing", x.place(), 0);
    }

    private static void objectsAreApart() {
        IssueFold one = Use.with("A>B;");
        one.act(0, Use.OPEN, 0, 0, 1);
        one.send(0, 1);
        IssueFold other = new IssueFold();
        Check.due("messages of the other", other.messages(), 0);
        Check.due("event of the other", other.event(0, 0), -1);
        Check.illegalState("act of the other", () -> other.act(0, 0, 0, 0, 0));
    }
}
