import java.lang.reflect.Constructor;
import java.lang.reflect.Field;
import java.lang.reflect.Method;
import java.lang.reflect.Modifier;
import java.util.ArrayList;
import java.util.Arrays;
import java.util.List;

/** The public face is the document's, and nothing else of the class is visible. */
public final class FaceTest {
    private static final String I = "IndexOutOfBoundsException";
    private static final String A = "IllegalArgumentException";
    private static final String S = "IllegalStateException";

    private static final String[] FACE = {
        "int addRuin(int, int, int, int) " + A + " " + S,
        "int cutIvy(int, int) " + I + " " + A,
        "int prop(int) " + I + " " + S,
        "int setPrice(int, int) " + I + " " + A,
        "int setGuests(int) " + A,
        "int sellTicket(int, int) " + I + " " + A + " " + S,
        "int pass(int) " + A,
        "int day()", "int phase()", "int brightness()", "int daysUntilFullMoon()",
        "int ruins()", "int standing()", "int purse()",
        "int wallsOf(int) " + I, "int ivyOf(int) " + I, "int gradeOf(int) " + I, "int ghostsOf(int) " + I,
        "boolean hasCollapsed(int) " + I, "int viewOf(int) " + I, "int rankOf(int) " + I,
        "int ruinAt(int) " + I, "int guestsOf(int) " + I,
        "int tickets()", "int dayOf(int) " + I, "boolean isOpen(int) " + I, "boolean isPaidBack(int) " + I,
        "int viewIn(int, int) " + I + " " + A, "int daysUntilCollapse(int) " + I, "int daysUntilFirst(int) " + I,
        "int bestCut(int) " + I, "int purseIn(int) " + A, "double meanView()", "long digest()"};

    public static void main(String[] args) {
        List<String> faults = new ArrayList<>();
        Class<?> type = RuinViews.class;
        if (type.getModifiers() != (Modifier.PUBLIC | Modifier.FINAL) || type.getPackageName().length() != 0) {
            faults.add("the class is not public and final, or has a package");
        }
        List<String> seen = new ArrayList<>();
        List<String> hidden = new ArrayList<>();
        for (Method m : type.getDeclaredMethods()) {
            if (Modifier.isPrivate(m.getModifiers())) {
                hidden.add(m.getName());
            } else {
                seen.add(describe(m));
            }
        }
        List<String> due = new ArrayList<>(Arrays.asList(FACE));
        seen.sort(null);
        due.sort(null);
        if (!seen.equals(due)) {
            faults.add("the methods are " + seen + ", due are " + due);
        }
        for (Method m : type.getDeclaredMethods()) {
            if (!Modifier.isPrivate(m.getModifiers()) && hidden.contains(m.getName())) {
                faults.add("a private method is named " + m.getName());
            }
        }
        Constructor<?>[] made = type.getDeclaredConstructors();
        if (made.length != 1 || made[0].getModifiers() != Modifier.PUBLIC || made[0].getParameterCount() != 0) {
            faults.add("there is not just the one public constructor");
        }
        for (Field f : type.getDeclaredFields()) {
            if (!Modifier.isPrivate(f.getModifiers())) {
                faults.add("a field can be seen: " + f.getName());
            }
        }
        for (Class<?> c : type.getDeclaredClasses()) {
            if (!Modifier.isStatic(c.getModifiers()) || Modifier.isPublic(c.getModifiers())) {
                faults.add("a class inside is not static or is public: " + c.getName());
            }
        }
        for (String fault : faults) {
            System.out.println(fault);
        }
        if (!faults.isEmpty()) {
            System.exit(1);
        }
        System.out.println("the face is the document's");
    }

    private static String describe(Method m) {
        StringBuilder b = new StringBuilder();
        if (m.getModifiers() != Modifier.PUBLIC) {
            b.append("not just public: ");
        }
        b.append(m.getReturnType().getSimpleName()).append(' ').append(m.getName()).append('(');
        String between = "";
        for (Class<?> p : m.getParameterTypes()) {
            b.append(between).append(p.getSimpleName());
            between = ", ";
        }
        b.append(')');
        for (Class<?> e : m.getExceptionTypes()) {
            b.append(' ').append(e.getSimpleName());
        }
        return b.toString();
    }
}
