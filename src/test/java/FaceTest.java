import java.lang.reflect.Constructor;
import java.lang.reflect.Field;
import java.lang.reflect.Method;
import java.lang.reflect.Modifier;
import java.util.Set;
import java.util.TreeSet;

/** The document's face, no more and no less; and promise 1, a new object. */
public final class FaceTest {
    private static final Set<String> FACE = new TreeSet<>(Set.of(
            "int feed(int,int,int,int,int)", "int end(int)", "void start(int)", "int program(int)", "int place()",
            "int put(int,int)", "int turn(int)", "int round(int)", "int has(int)", "int had(int,int)",
            "int register(int,int)", "int said(int,boolean)", "int look(int,int)", "int judge()", "int order(int)",
            "int record(int,int)", "int count(int)"));

    public static void main(String[] args) {
        theFaceIsTheDocuments();
        theFaceThrowsWhatItTells();
        aNewObjectIsEmpty();
        Due.end();
    }

    private static void theFaceIsTheDocuments() {
        Class<?> c = AsOneHouse.class;
        Due.is("public and final", Modifier.PUBLIC | Modifier.FINAL, c.getModifiers());
        Set<String> found = new TreeSet<>();
        Set<String> names = new TreeSet<>();
        for (Method m : c.getDeclaredMethods()) {
            StringBuilder s = new StringBuilder(m.getReturnType() + " " + m.getName() + "(");
            for (Class<?> p : m.getParameterTypes()) {
                s.append(s.charAt(s.length() - 1) == '(' ? "" : ",").append(p);
            }
            if (Modifier.isPrivate(m.getModifiers())) {
                names.add(m.getName());
            } else {
                found.add(s.append(")").toString());
            }
        }
        Due.is("the methods that can be seen: " + found, 1, found.equals(FACE) ? 1 : 0);
        for (String s : FACE) {
            String name = s.substring(s.indexOf(' ') + 1, s.indexOf('('));
            Due.is("no private method is called " + name, 0, names.contains(name) ? 1 : 0);
        }
        for (Field f : c.getDeclaredFields()) {
            Due.is("private: " + f, 1, Modifier.isPrivate(f.getModifiers()) ? 1 : 0);
        }
        Constructor<?>[] made = c.getDeclaredConstructors();
        Due.is("one constructor", 1, made.length);
        Due.is("public, without parameters", 1,
                Modifier.isPublic(made[0].getModifiers()) && made[0].getParameterCount() == 0 ? 1 : 0);
        for (Class<?> inside : c.getDeclaredClasses()) {
            Due.is("static: " + inside, 1, Modifier.isStatic(inside.getModifiers()) ? 1 : 0);
        }
    }

    private static void theFaceThrowsWhatItTells() {
        Due.sentence("## The public face");
        for (Method m : AsOneHouse.class.getDeclaredMethods()) {
            if (Modifier.isPublic(m.getModifiers())) {
                StringBuilder s = new StringBuilder(" " + m.getName() + "(");
                for (Class<?> p : m.getParameterTypes()) {
                    s.append(s.charAt(s.length() - 1) == '(' ? "" : ", ").append(p).append(" \\w+");
                }
                s.append(")");
                for (Class<?> e : m.getExceptionTypes()) {
                    s.append(s.charAt(s.length() - 1) == ')' ? " throws " : ", ").append(e.getSimpleName());
                }
                String pattern = s.append(";").toString().replace("(", "\\(").replace(")", "\\)");
                Due.is(m.getName() + " as in the document", 1, Due.documentHas(pattern) ? 1 : 0);
            }
        }
        Due.sentence("`AsOneHouse()`: No PROGRAMS, WAY 0.");
    }

    private static void aNewObjectIsEmpty() {
        AsOneHouse h = new AsOneHouse();
        for (int what = 0; what <= 8; what++) {
            int w = what;
            Due.is("count " + w, 0, () -> h.count(w));
        }
        Due.is("place", -1, h::place);
        for (int thread = 0; thread < 6; thread++) {
            for (int what = 0; what <= 7; what++) {
                int t = thread;
                int w = what;
                Due.is("look " + t + ", " + w, 0, () -> h.look(t, w));
            }
        }
        for (int place = 0; place < 26; place++) {
            int p = place;
            Due.is("has " + p, 0, () -> h.has(p));
            Due.is("had " + p, 0, () -> h.had(p, 0));
            Due.is("register " + p, 0, () -> h.register(5, p));
        }
        Due.is("round", 0, () -> h.round(2000));
        Due.is("nothing said", Due.INDEX, () -> h.said(0, true));
        Due.is("no record", Due.INDEX, () -> h.record(0, 0));
        Due.is("no order yet", Due.INDEX, () -> h.order(0));
        Due.is("no records have an order", 1, h::judge);
        Due.is("which is empty", Due.INDEX, () -> h.order(0));
        Due.is("without a program it is over", 2, () -> h.turn(5));
    }
}
