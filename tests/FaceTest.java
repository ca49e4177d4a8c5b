import java.lang.reflect.Constructor;
import java.lang.reflect.Field;
import java.lang.reflect.Method;
import java.lang.reflect.Modifier;
import java.util.Set;
import java.util.TreeSet;

/** The public face, and that no number makes a call throw. */
public final class FaceTest {
    private static final String[] METHODS = {
        "int slide(int,int)", "int hold(int,boolean)", "int ball(int,int)", "int goals(int,int)", "int say(int)",
        "int wipe()", "int fault()", "int judge(int)", "int done()", "int behind(int,int)", "int then(int)",
        "int ends(int)", "int goesIn()", "int path(int,int,int)", "int stand(int)",
        "long mix(int,int,int,int,int,int)", "int hands(int,int)", "long truly(int,int,int,int,int)",
        "long race(int,int,int,int)", "int seen(int,boolean)", "int forget()", "int fits(int)", "int ask(int)",
        "int year(int,int,int)", "int image(int)", "int restore(int)", "int told(int)"};
    private static final int[] NUMBERS = {Integer.MIN_VALUE, -1000000007, -100, -11, -10, -9, -6, -2, -1, 0, 1, 2, 3,
        4, 5, 7, 8, 9, 10, 11, 16, 17, 24, 33, 40, 41, 60, 61, 99, 100, 126, 127, 174, 179, 180, 9999, 10000,
        123456789, 333333333, Integer.MAX_VALUE - 100, Integer.MAX_VALUE};

    public static void main(String[] args) throws Exception {
        Due due = new Due();
        constants(due);
        members(due);
        nestedClasses(due);
        anyNumbers(due);
        due.finish();
    }

    private static void constants(Due due) {
        due.is("NONE", FourRods.NONE, -6);
        due.is("UNKNOWN", FourRods.UNKNOWN, -1);
        due.is("OUTSIDE", FourRods.OUTSIDE, -2);
        due.is("STATE", FourRods.STATE, -3);
        due.is("FULL", FourRods.FULL, -4);
        due.is("NO", FourRods.NO, -5);
        due.is("LOST", FourRods.LOST, -1000000000000000000L);
    }

    private static void members(Due due) {
        Set<String> wanted = new TreeSet<>(Set.of(METHODS));
        Set<String> names = new TreeSet<>();
        for (String method : METHODS) names.add(method.substring(method.indexOf(' ') + 1, method.indexOf('(')));
        for (Method method : FourRods.class.getDeclaredMethods()) {
            if (Modifier.isPrivate(method.getModifiers())) {
                due.holds("private " + method.getName() + " bears a name of its own", !names.contains(method.getName()));
            } else {
                due.holds(told(method) + " is of the face", wanted.remove(told(method)));
                due.holds(told(method) + " is public", Modifier.isPublic(method.getModifiers()));
            }
        }
        due.is("methods that are missing: " + wanted, wanted.size(), 0);
        for (Field field : FourRods.class.getDeclaredFields()) {
            boolean isConstant = Set.of("NONE", "UNKNOWN", "OUTSIDE", "STATE", "FULL", "NO", "LOST").contains(field.getName());
            due.holds(field.getName() + " is seen as it shall be", isConstant
                ? Modifier.isPublic(field.getModifiers()) : Modifier.isPrivate(field.getModifiers()));
            due.holds(field.getName() + " is final if static",
                !Modifier.isStatic(field.getModifiers()) || Modifier.isFinal(field.getModifiers()));
        }
        Constructor<?>[] constructors = FourRods.class.getDeclaredConstructors();
        due.is("constructors", constructors.length, 1);
        due.is("arguments of the constructor", constructors[0].getParameterCount(), 0);
        due.holds("the class is public and final",
            (FourRods.class.getModifiers() & (Modifier.PUBLIC | Modifier.FINAL)) == (Modifier.PUBLIC | Modifier.FINAL));
    }

    private static String told(Method method) {
        StringBuilder text = new StringBuilder(method.getReturnType() + " " + method.getName() + "(");
        for (Class<?> type : method.getParameterTypes()) {
            if (text.charAt(text.length() - 1) != '(') text.append(',');
            text.append(type);
        }
        return text.append(')').toString();
    }

    private static void nestedClasses(Due due) {
        Class<?>[] nested = FourRods.class.getDeclaredClasses();
        due.holds("at most some twelve classes", nested.length + 1 <= 12);
        for (Class<?> one : nested) {
            int modifiers = one.getModifiers();
            due.holds(one + " is static", Modifier.isStatic(modifiers));
            due.holds(one + " is not seen", !Modifier.isPublic(modifiers) && !Modifier.isProtected(modifiers));
            for (Method method : one.getDeclaredMethods()) {
                due.holds(method + " has at most seven parameters", method.getParameterCount() <= 7);
            }
            for (Field field : one.getDeclaredFields()) {
                int seen = field.getModifiers();
                due.holds(field + " is final if static", !Modifier.isStatic(seen) || Modifier.isFinal(seen));
            }
        }
    }

    private static void anyNumbers(Due due) throws Exception {
        String[] starts = {"", "f(!f1pp", "!h0", "f("};
        for (int round = 0; round < starts.length; round++) {
            for (Method method : FourRods.class.getDeclaredMethods()) {
                if (Modifier.isPublic(method.getModifiers())) anyNumbers(due, method, starts[round], round);
            }
        }
    }

    private static void anyNumbers(Due due, Method method, String text, int round) throws Exception {
        FourRods table = started(text, round);
        int calls = 0;
        for (int i = 0; i < 300; i++) {
            Object[] arguments = new Object[method.getParameterCount()];
            for (int k = 0; k < arguments.length; k++) {
                int number = NUMBERS[(i * (2 * k + 1) + k * (7 + i / NUMBERS.length)) % NUMBERS.length];
                arguments[k] = method.getParameterTypes()[k] == boolean.class ? (Object) (number % 2 == 0) : (Object) number;
            }
            if (calls++ > 400) table = started(text, round);
            method.invoke(table, arguments);
        }
        due.holds(method + " threw nothing", true);
    }

    private static FourRods started(String text, int round) {
        FourRods table = new FourRods();
        if (round == 2) table.ball(0, 0);
        if (round == 3) table.ball(2, 2);
        if (round == 3) table.goals(0, 10);
        Due.write(table, text);
        return table;
    }
}
