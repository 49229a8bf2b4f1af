import java.lang.reflect.Constructor;
import java.lang.reflect.Field;
import java.lang.reflect.Method;
import java.lang.reflect.Modifier;
import java.util.ArrayList;
import java.util.Arrays;
import java.util.Collections;
import java.util.List;

/** The public face: what the document declares, and nothing else that is not private. */
public final class FaceTest {
    private static final String[] METHODS = {
        "int open(int,int,int,int)", "int pay(int,int,int)", "int hold(int,int)", "int release(int)",
        "int settle(int,int,int)", "int order(int,int,int,int)", "int rest(int)", "int run(int)",
        "boolean fuse(int)", "int restart()", "long balance(int)", "long available(int)",
        "long accrued(int)", "int mark(int)", "long ledger(int,int)", "int missed(int)", "int today()",
        "int count(int,int,int)", "int writes()", "int lines()"};
    private static final String[] CONSTANTS = {"STOPPED", "BUSY", "BAD", "FULL", "POOR"};

    public static void main(String[] args) throws Exception {
        Check check = new Check();
        check.due("the class is public and final",
                DayEndBank.class.getModifiers() == (Modifier.PUBLIC | Modifier.FINAL), true);
        constantsAreDue(check);
        methodsAreDue(check);
        constructorIsDue(check);
        staticsAreFinal(check, DayEndBank.class);
        for (Class<?> inside : DayEndBank.class.getDeclaredClasses()) {
            check.due(inside + " is static", Modifier.isStatic(inside.getModifiers()), true);
            check.due(inside + " is not public", Modifier.isPublic(inside.getModifiers()), false);
            check.due(inside + " has at most 20 fields", fieldsOf(inside) <= 20, true);
            staticsAreFinal(check, inside);
        }
        check.due("the class has at most 20 fields", fieldsOf(DayEndBank.class) <= 20, true);
        check.end();
    }

    private static void constantsAreDue(Check check) throws Exception {
        List<String> seen = new ArrayList<>();
        for (Field field : DayEndBank.class.getDeclaredFields()) {
            if (!Modifier.isPrivate(field.getModifiers())) {
                seen.add(field.getName());
            }
        }
        check.due("the constants are " + seen, seen.equals(Arrays.asList(CONSTANTS)), true);
        for (int i = 0; i < CONSTANTS.length; i++) {
            Field field = DayEndBank.class.getDeclaredField(CONSTANTS[i]);
            int modifiers = Modifier.PUBLIC | Modifier.STATIC | Modifier.FINAL;
            check.due(CONSTANTS[i] + " is a public constant", field.getModifiers() == modifiers, true);
            check.due(CONSTANTS[i] + " is an int", field.getType() == int.class, true);
            check.due(CONSTANTS[i], field.getInt(null), -1 - i);
        }
    }

    private static void methodsAreDue(Check check) {
        List<String> seen = new ArrayList<>();
        List<String> names = new ArrayList<>();
        for (Method method : DayEndBank.class.getDeclaredMethods()) {
            if (!Modifier.isPrivate(method.getModifiers())) {
                seen.add(signature(method));
                names.add(method.getName());
                check.due(method + " is only public", method.getModifiers(), Modifier.PUBLIC);
            }
        }
        List<String> due = new ArrayList<>(Arrays.asList(METHODS));
        Collections.sort(due);
        Collections.sort(seen);
        check.due("the methods are " + seen, seen.equals(due), true);
        for (Method method : DayEndBank.class.getDeclaredMethods()) {
            boolean isPrivate = Modifier.isPrivate(method.getModifiers());
            check.due(method + " bears a public name", isPrivate && names.contains(method.getName()), false);
        }
    }

    private static String signature(Method method) {
        List<String> types = new ArrayList<>();
        for (Class<?> type : method.getParameterTypes()) {
            types.add(type.getSimpleName());
        }
        return method.getReturnType().getSimpleName() + " " + method.getName()
                + "(" + String.join(",", types) + ")";
    }

    private static void constructorIsDue(Check check) {
        Constructor<?>[] constructors = DayEndBank.class.getDeclaredConstructors();
        check.due("constructors", constructors.length, 1);
        check.due("its parameters", constructors[0].getParameterCount(), 0);
        check.due("it is public", constructors[0].getModifiers() == Modifier.PUBLIC, true);
    }

    private static int fieldsOf(Class<?> type) {
        int fields = 0;
        for (Field field : type.getDeclaredFields()) {
            if (!Modifier.isStatic(field.getModifiers())) {
                fields++;
            }
        }
        return fields;
    }

    private static void staticsAreFinal(Check check, Class<?> type) {
        for (Field field : type.getDeclaredFields()) {
            int modifiers = field.getModifiers();
            check.due(field + " is static and not final",
                    Modifier.isStatic(modifiers) && !Modifier.isFinal(modifiers), false);
        }
    }
}
