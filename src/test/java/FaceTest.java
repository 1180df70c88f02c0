import java.lang.reflect.Constructor;
import java.lang.reflect.Field;
import java.lang.reflect.Method;
import java.lang.reflect.Modifier;
import java.util.Set;
import java.util.TreeSet;

/** The public face, and no other member that could be seen from outside. */
public final class FaceTest {
    private static final String FACE = """
        public static final int ABSENT = -11
        public static final int BAD = -1
        public static final int BUSY = -6
        public static final int DUPLICATE = -2
        public static final int FULL = -3
        public static final int LATE = -9
        public static final int OVER = -10
        public static final int REVERSED = -8
        public static final int SHORT = -7
        public static final int UNKNOWN = -4
        public static final int UNROUTED = -5
        public CardSwitch()
        public boolean CardSwitch.crash(int)
        public boolean CardSwitch.reconcile(int,int,long)
        public boolean CardSwitch.route(int,int,int)
        public int CardSwitch.authorise(int,int,int,int,boolean)
        public int CardSwitch.available(int)
        public int CardSwitch.card(int,int,int)
        public int CardSwitch.chargeback(int,int)
        public int CardSwitch.cutoff()
        public int CardSwitch.flush()
        public int CardSwitch.held(int,int)
        public int CardSwitch.present(int,int,int)
        public int CardSwitch.represent(int,int)
        public int CardSwitch.reverse(int,int,int)
        public int CardSwitch.state(int,int)
        public int CardSwitch.tick(int)
        public int CardSwitch.unwritten()
        public long CardSwitch.position(int)
        public long CardSwitch.settled(int)
        """;

    public static void main(String[] args) throws IllegalAccessException {
        Script script = new Script();
        Set<String> due = new TreeSet<>();
        FACE.lines().map(String::trim).forEach(due::add);
        Set<String> found = membersInSight();
        for (String member : due) {
            script.due("face", member, found.contains(member) ? "there" : "missing", "there");
        }
        for (String member : found) {
            script.due("face", member, due.contains(member) ? "of the document" : "extra", "of the document");
        }
        script.due("face", "the class's modifiers", Modifier.toString(CardSwitch.class.getModifiers()), "public final");
        checkClassesInside(script);
        checkPrivateNames(script);
        script.finish();
    }

    private static Set<String> membersInSight() throws IllegalAccessException {
        Set<String> found = new TreeSet<>();
        for (Field field : CardSwitch.class.getDeclaredFields()) {
            if (!Modifier.isPrivate(field.getModifiers())) {
                String value = Modifier.isStatic(field.getModifiers()) ? String.valueOf(field.get(null)) : "?";
                found.add(Modifier.toString(field.getModifiers()) + " " + field.getType() + " " + field.getName() + " = " + value);
            }
        }
        for (Constructor<?> constructor : CardSwitch.class.getDeclaredConstructors()) {
            if (!Modifier.isPrivate(constructor.getModifiers())) {
                found.add(constructor.toString());
            }
        }
        for (Method method : CardSwitch.class.getDeclaredMethods()) {
            if (!Modifier.isPrivate(method.getModifiers())) {
                found.add(method.toString());
            }
        }
        return found;
    }

    private static void checkClassesInside(Script script) {
        for (Class<?> inside : CardSwitch.class.getDeclaredClasses()) {
            int modifiers = inside.getModifiers();
            boolean fine = Modifier.isStatic(modifiers) && !Modifier.isPublic(modifiers) && !Modifier.isProtected(modifiers);
            script.due("face", inside.getName(), fine ? "static and hidden" : Modifier.toString(modifiers), "static and hidden");
        }
    }

    private static void checkPrivateNames(Script script) {
        Set<String> names = new TreeSet<>();
        for (Method method : CardSwitch.class.getDeclaredMethods()) {
            script.due("face", "the name " + method.getName(), names.add(method.getName()) ? "once" : "twice", "once");
        }
    }
}
