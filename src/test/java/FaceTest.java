import java.lang.reflect.Field;
import java.lang.reflect.Member;
import java.lang.reflect.Method;
import java.lang.reflect.Modifier;
import java.util.Arrays;
import java.util.Map;
import java.util.Set;
import java.util.TreeMap;
import java.util.TreeSet;

/** The public face: every constant, constructor and method of the document, and no other. */
public final class FaceTest {
    private static final String[] METHODS = {
        "int wrestler(int,int,int)", "int leave(int)", "int told(int,int)", "int is(int,int)",
        "int on(int)", "int mark(int,int)", "int mean(int)", "int sheet(int,int)",
        "int lay(int,int,int)", "int tear(int)", "int copy(int,int,int,int,int)",
        "int prices(int)", "int price(int)", "int meet(int)", "int absent(int,boolean)",
        "int barred(int,int)", "int draw()", "int cost()", "int result(int,boolean)",
        "int bout(int,int)", "int sat()", "int line(int,int,int)", "int anew()", "int why(int)",
        "int passed(int,int)", "int beside(int)", "int rungBeside(int)", "int leaders()",
        "int playOff()", "int meets(boolean)", "int wins(boolean)", "int champion()",
        "int count(int)", "int finding()", "int findings(int)", "long digest()"
    };

    public static void main(String[] args) throws Exception {
        methods();
        constants();
        shape();
        Check.end();
    }

    private static void methods() {
        Set<String> due = new TreeSet<>(Arrays.asList(METHODS));
        Set<String> names = new TreeSet<>();
        Set<String> found = new TreeSet<>();
        for (Method m : RankBoard.class.getDeclaredMethods()) {
            if (!Modifier.isPrivate(m.getModifiers())) {
                found.add(signature(m));
                names.add(m.getName());
            }
        }
        Check.holds("public methods " + found + " are " + due, found.equals(due));
        for (Method m : RankBoard.class.getDeclaredMethods()) {
            Check.holds("private " + m.getName() + " has a name of its own",
                    !Modifier.isPrivate(m.getModifiers()) || !names.contains(m.getName()));
        }
        for (Class<?> inner : RankBoard.class.getDeclaredClasses()) {
            for (Method m : inner.getDeclaredMethods()) {
                Check.holds(inner.getSimpleName() + "." + m.getName() + " has a name of its own",
                        !names.contains(m.getName()));
                Check.holds(m.getName() + " has at most 7 parameters", m.getParameterCount() <= 7);
            }
        }
    }

    private static String signature(Method m) {
        StringBuilder text = new StringBuilder();
        text.append(m.getReturnType().getName()).append(' ').append(m.getName()).append('(');
        for (int i = 0; i < m.getParameterCount(); i++) {
            text.append(i == 0 ? "" : ",").append(m.getParameterTypes()[i].getName());
        }
        return text.append(')').toString();
    }

    private static void constants() throws Exception {
        Map<String, Integer> due = new TreeMap<>();
        due.put("BAD", -1);
        due.put("FULL", -2);
        due.put("FINDING", -3);
        due.put("STATE", -4);
        due.put("NONE", -9);
        Map<String, Integer> found = new TreeMap<>();
        for (Field f : RankBoard.class.getDeclaredFields()) {
            if (!Modifier.isPrivate(f.getModifiers())) {
                Check.holds(f.getName() + " is public static final int", f.getType() == int.class
                        && f.getModifiers() == (Modifier.PUBLIC | Modifier.STATIC | Modifier.FINAL));
                found.put(f.getName(), f.getInt(null));
            }
        }
        Check.holds("constants " + found + " are " + due, found.equals(due));
    }

    private static void shape() {
        Check.holds("the class is public and final",
                RankBoard.class.getModifiers() == (Modifier.PUBLIC | Modifier.FINAL));
        Check.due("constructors", RankBoard.class.getDeclaredConstructors().length, 1);
        Check.due("public constructors", RankBoard.class.getConstructors().length, 1);
        Class<?>[] inner = RankBoard.class.getDeclaredClasses();
        Check.holds("at most twelve classes", inner.length + 1 <= 12);
        fewFields(RankBoard.class);
        for (Class<?> c : inner) {
            Check.holds(c.getSimpleName() + " is static", Modifier.isStatic(c.getModifiers()));
            Check.holds(c.getSimpleName() + " is not public", !Modifier.isPublic(c.getModifiers())
                    && !Modifier.isProtected(c.getModifiers()));
            fewFields(c);
        }
    }

    private static void fewFields(Class<?> c) {
        int fields = 0;
        for (Field f : c.getDeclaredFields()) {
            if (isStatic(f)) {
                Check.holds(f.getName() + " is final", Modifier.isFinal(f.getModifiers()));
            } else {
                fields++;
            }
        }
        Check.holds(c.getSimpleName() + " has at most twenty fields", fields <= 20);
    }

    private static boolean isStatic(Member m) {
        return Modifier.isStatic(m.getModifiers());
    }
}
