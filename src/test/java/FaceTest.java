import java.lang.reflect.Constructor;
import java.lang.reflect.Field;
import java.lang.reflect.Method;
import java.lang.reflect.Modifier;
import java.util.Arrays;
import java.util.Set;
import java.util.TreeSet;

/** The class shows the document's face and nothing else. */
public final class FaceTest {
    private static final String I = "IndexOutOfBoundsException";
    private static final String A = "IllegalArgumentException";
    private static final String S = "IllegalStateException";

    public static void main(String[] args) {
        Class<?> face = LockStaircase.class;
        Check.due("modifiers", face.getModifiers(), Modifier.PUBLIC | Modifier.FINAL);
        constants();
        Set<String> shown = new TreeSet<>();
        for (Constructor<?> c : face.getDeclaredConstructors()) {
            shown.add("new" + types(c.getParameterTypes()) + types(c.getExceptionTypes()));
        }
        Set<String> hidden = new TreeSet<>();
        for (Method m : face.getDeclaredMethods()) {
            if (m.isSynthetic()) {
                continue;
            }
            if (Modifier.isPrivate(m.getModifiers())) {
                hidden.add(m.getName());
                continue;
            }
            Check.due(m.getName() + " is public alone", m.getModifiers(), Modifier.PUBLIC);
            shown.add(m.getReturnType().getSimpleName() + " " + m.getName() + types(m.getParameterTypes())
                    + types(m.getExceptionTypes()));
        }
        Check.due("the face", shown, due());
        for (String line : due()) {
            String name = line.replaceAll("^\\S+ ", "").replaceAll("\\[.*", "");
            Check.due("a hidden " + name, hidden.contains(name), false);
        }
        for (Class<?> inside : face.getDeclaredClasses()) {
            boolean kept = (inside.getModifiers() & (Modifier.PUBLIC | Modifier.PROTECTED)) == 0;
            Check.due(inside.getName() + " is kept inside", kept, true);
        }
        Check.finish("FaceTest");
    }

    private static void constants() {
        Check.due("NONE", LockStaircase.NONE, -1);
        Check.due("CAN_OPEN", LockStaircase.CAN_OPEN, 0);
        Check.due("IS_OPEN", LockStaircase.IS_OPEN, 1);
        Check.due("SLUICE_UP", LockStaircase.SLUICE_UP, 2);
        Check.due("HAS_HEAD", LockStaircase.HAS_HEAD, 3);
        Check.due("CAN_MOVE", LockStaircase.CAN_MOVE, 0);
        Check.due("NO_WAY", LockStaircase.NO_WAY, 1);
        Check.due("GATE_SHUT", LockStaircase.GATE_SHUT, 2);
        Check.due("NO_ROOM", LockStaircase.NO_ROOM, 3);
        Check.due("TOO_SHALLOW", LockStaircase.TOO_SHALLOW, 4);
        Check.due("LOW_POUND", LockStaircase.LOW_POUND, 5);
        Check.due("AT_GATE", LockStaircase.AT_GATE, 6);
        Check.due("AT_CHAMBER", LockStaircase.AT_CHAMBER, 7);
        int shown = 0;
        for (Field f : LockStaircase.class.getDeclaredFields()) {
            if (!Modifier.isPrivate(f.getModifiers())) {
                shown++;
                Check.due(f.getName(), f.getModifiers(), Modifier.PUBLIC | Modifier.STATIC | Modifier.FINAL);
                Check.due(f.getName(), f.getType(), int.class);
            }
        }
        Check.due("number of constants", shown, 13);
    }

    private static String types(Class<?>[] types) {
        String[] names = new String[types.length];
        for (int i = 0; i < types.length; i++) {
            names[i] = types[i].getSimpleName();
        }
        return Arrays.toString(names);
    }

    private static String row(String what, String taken, String thrown) {
        return what + "[" + taken + "][" + thrown + "]";
    }

    private static Set<String> due() {
        return new TreeSet<>(Arrays.asList(
                row("new", "int, int, int", ""), row("int chambers", "", ""), row("int levelOf", "int", I),
                row("int poundLevel", "", ""), row("int poundDepth", "", ""), row("int poundWater", "", ""),
                row("int rain", "int", A + ", " + S), row("int headAt", "int", I), row("boolean isOpen", "int", I),
                row("int openObstacle", "int", I), row("int open", "int", I + ", " + S), row("boolean shut", "int", I),
                row("int turnsOf", "int", I), row("int wind", "int, int", I + ", " + A + ", " + S),
                row("int pass", "int", A), row("int clock", "", ""),
                row("int addBoat", "int, int, boolean", A + ", " + S), row("int boatCount", "", ""),
                row("int placeOf", "int", I), row("int boatsAt", "int", I), row("int freeLength", "int", I),
                row("int moveObstacle", "int, boolean", I), row("int move", "int, boolean", I + ", " + S),
                row("int take", "int, boolean", I), row("int reportLength", "", ""), row("int reportKind", "int", ""),
                row("int reportNumber", "int", ""), row("int minutesFor", "int, boolean", I),
                row("int waterFor", "int, boolean", I), row("int lostWater", "", ""), row("double meanLevel", "", ""),
                row("float poundPart", "", ""), row("boolean isConsistent", "", "")));
    }
}
