import java.lang.reflect.Constructor;
import java.lang.reflect.Field;
import java.lang.reflect.Method;
import java.lang.reflect.Modifier;
import java.util.Set;
import java.util.TreeSet;

/** The public face is the document's, no more and no less. */
public final class FaceTest {

    private static final String[] METHODS = {
        "int table(int,int,long)", "long weigh(int,int,long,int)", "long bits(int)", "int inputs(int)",
        "int most(int,int,int,int)", "int turn(int,int,int)", "int hold(int,int,int,boolean)",
        "int matters(int,int)", "int ones(int,int)", "int gate(int)", "int weight(int,int)",
        "int bound(int)", "int size(int)", "int witness(int,int)", "int slack(int)", "long chief(int)",
        "int kin(int)", "int gates(int)", "int kinds(int,boolean)", "int fewest(int)", "int first(int)",
        "int net(int)", "int put(int,int)", "int add(int)", "int tell(int,int)", "int unlike(int)",
        "int depth(int)", "int idle(int,boolean)", "int count(int)"};

    public static void main(String[] args) {
        Check check = new Check();
        constants(check);
        members(check);
        check.holds("the class is public and final",
                Modifier.isPublic(WeighGates.class.getModifiers())
                && Modifier.isFinal(WeighGates.class.getModifiers()));
        for (Class<?> inside : WeighGates.class.getDeclaredClasses()) {
            check.holds(inside + " is static", Modifier.isStatic(inside.getModifiers()));
            check.holds(inside + " is not public", !Modifier.isPublic(inside.getModifiers()));
        }
        check.finish();
    }

    private static void constants(Check check) {
        check.due("UNKNOWN", WeighGates.UNKNOWN, -1);
        check.due("OUTSIDE", WeighGates.OUTSIDE, -2);
        check.due("STATE", WeighGates.STATE, -3);
        check.due("FULL", WeighGates.FULL, -4);
        check.due("NONE", WeighGates.NONE, -1000000);
        Set<String> names = Set.of("UNKNOWN", "OUTSIDE", "STATE", "FULL", "NONE");
        for (Field field : WeighGates.class.getDeclaredFields()) {
            boolean known = names.contains(field.getName());
            check.holds(field + " is private, or the document's",
                    known ? Modifier.isPublic(field.getModifiers()) : Modifier.isPrivate(field.getModifiers()));
        }
    }

    private static void members(Check check) {
        Set<String> want = new TreeSet<>(Set.of(METHODS));
        Set<String> names = new TreeSet<>();
        for (String method : METHODS) {
            names.add(method.substring(method.indexOf(' ') + 1, method.indexOf('(')));
        }
        Set<String> got = new TreeSet<>();
        for (Method method : WeighGates.class.getDeclaredMethods()) {
            if (Modifier.isPublic(method.getModifiers())) {
                got.add(written(method));
                check.holds(method + " is not static", !Modifier.isStatic(method.getModifiers()));
            } else {
                check.holds(method + " is private", Modifier.isPrivate(method.getModifiers()));
                check.holds(method + " has a name of its own", !names.contains(method.getName()));
            }
        }
        check.holds("the public methods are " + got + ", due are " + want, got.equals(want));
        Constructor<?>[] made = WeighGates.class.getDeclaredConstructors();
        check.holds("one public constructor without arguments", made.length == 1
                && made[0].getParameterCount() == 0 && Modifier.isPublic(made[0].getModifiers()));
    }

    private static String written(Method method) {
        StringBuilder text = new StringBuilder(method.getReturnType() + " " + method.getName() + "(");
        for (Class<?> type : method.getParameterTypes()) {
            text.append(text.charAt(text.length() - 1) == '(' ? "" : ",").append(type);
        }
        return text.append(')').toString();
    }
}
