import java.lang.reflect.Constructor;
import java.lang.reflect.Field;
import java.lang.reflect.Method;
import java.lang.reflect.Modifier;
import java.util.Arrays;
import java.util.HashSet;
import java.util.Set;
import java.util.TreeSet;

/** Promise 1, the public face, and the rules of LANGUAGE.md on what the class shows of itself. */
public final class FaceTest {
    private static final String[] FACE = {
        "boolean air 2", "boolean damp 2", "int milk 2", "int wheel 8", "boolean sell 1", "int feed 5", "int end 1",
        "int orders 0", "int fault 1", "int days 1", "int of 2", "int from 2", "int band 4", "int suits 2",
        "boolean move 2", "int plan 0", "int planned 1", "int carry 0", "int mark 3", "boolean untell 1",
        "int grade 2", "int beside 2", "long reached 1", "int about 1"};

    public static void main(String[] args) {
        emptyCellar();
        face();
        Check.finish();
    }

    private static void emptyCellar() {
        CheeseCellar x = new CheeseCellar();
        for (int what = 0; what <= 6; what++) {
            Check.due("about(" + what + ")", x.about(what), 0);
        }
        Check.due("of(0, 0)", x.of(0, 0), -1);
        Check.due("from(0, 0)", x.from(0, 0), -1);
        Check.due("planned(0)", x.planned(0), -1);
        Check.due("carry()", x.carry(), -1);
        Check.due("plan()", x.plan(), 0);
        Check.due("grade(0, 0)", x.grade(0, 0), -1);
        Check.due("reached(0)", x.reached(0), -1);
        Check.due("orders()", x.orders(), 0);
        Check.due("NONE", CheeseCellar.NONE, -1);
    }

    private static void face() {
        Set<String> want = new TreeSet<>(Arrays.asList(FACE));
        Set<String> publicNames = new HashSet<>();
        Set<String> got = new TreeSet<>();
        for (Method m : CheeseCellar.class.getDeclaredMethods()) {
            if (!Modifier.isPrivate(m.getModifiers())) {
                got.add(m.getReturnType() + " " + m.getName() + " " + m.getParameterCount());
                publicNames.add(m.getName());
            }
        }
        Check.due("the face " + got, got.equals(want), true);
        for (Constructor<?> c : CheeseCellar.class.getDeclaredConstructors()) {
            Check.due("constructor " + c, Modifier.isPublic(c.getModifiers()) && c.getParameterCount() == 0, true);
        }
        for (Field f : CheeseCellar.class.getDeclaredFields()) {
            boolean isNone = f.getName().equals("NONE");
            Check.due("field " + f, isNone || Modifier.isPrivate(f.getModifiers()), true);
            Check.due("static " + f, !Modifier.isStatic(f.getModifiers()) || Modifier.isFinal(f.getModifiers()), true);
        }
        Class<?>[] inside = CheeseCellar.class.getDeclaredClasses();
        Check.due("at most eleven classes inside", inside.length <= 11, true);
        for (Class<?> c : inside) {
            Check.due("static " + c, Modifier.isStatic(c.getModifiers()), true);
            Check.due("not public " + c, Modifier.isPublic(c.getModifiers()), false);
            for (Method m : c.getDeclaredMethods()) {
                Check.due("seven parameters " + m, m.getParameterCount() <= 7, true);
                Check.due("no face name " + m, publicNames.contains(m.getName()), false);
            }
        }
        for (Method m : CheeseCellar.class.getDeclaredMethods()) {
            boolean isHidden = Modifier.isPrivate(m.getModifiers());
            Check.due("no face name " + m, isHidden && publicNames.contains(m.getName()), false);
        }
    }
}
