import java.lang.reflect.Constructor;
import java.lang.reflect.Field;
import java.lang.reflect.Member;
import java.lang.reflect.Method;
import java.lang.reflect.Modifier;
import java.util.ArrayList;
import java.util.Arrays;
import java.util.Collections;
import java.util.List;

/** The public face: just the document's members, with their types, throws and values. */
public final class FaceTest {
    private static final String[] METHODS = {
        "void setPattern(int,int,boolean,int) IllegalArgumentException",
        "void setClaims(int,int) IllegalArgumentException",
        "int advance(int) IllegalArgumentException IllegalStateException",
        "int checkIn(int,int) IndexOutOfBoundsException IllegalArgumentException IllegalStateException",
        "void skip(int) IndexOutOfBoundsException IllegalStateException",
        "int round()", "int day()", "int foretold()", "int shift()",
        "int dayOf(int) IndexOutOfBoundsException",
        "int stateOf(int) IndexOutOfBoundsException",
        "int claimsOf(int) IndexOutOfBoundsException",
        "int labelOf(int) IndexOutOfBoundsException",
        "int find(int,int)", "int late()", "int ranges()",
        "int rangeAt(int) IndexOutOfBoundsException",
        "boolean isHeld(int)",
        "int give(int,int) IllegalArgumentException",
        "int only(boolean,int) IllegalArgumentException",
    };

    public static void main(String[] args) throws IllegalAccessException {
        constants();
        constructor();
        methods();
        Check.end();
    }

    private static void constants() throws IllegalAccessException {
        int seen = 0;
        for (Field field : IssueDesk.class.getDeclaredFields()) {
            if (!Modifier.isPrivate(field.getModifiers())) {
                seen++;
                Check.same(field.getName() + " is public static final int", field.getModifiers(),
                    Modifier.PUBLIC | Modifier.STATIC | Modifier.FINAL);
                Check.same(field.getName() + " is an int", field.getType() == int.class, true);
                Check.same(field.getName(), field.getInt(null), valueOf(field.getName()));
            }
        }
        Check.same("visible fields", seen, 5);
    }

    private static int valueOf(String constant) {
        return Arrays.asList("NONE", "WAITED", "HELD", "BOUND", "SKIPPED").indexOf(constant) - 1;
    }

    private static void constructor() {
        int modifiers = IssueDesk.class.getModifiers();
        Check.same("the class is public final", modifiers, Modifier.PUBLIC | Modifier.FINAL);
        Constructor<?>[] all = IssueDesk.class.getDeclaredConstructors();
        Check.same("constructors", all.length, 1);
        Check.same("arguments of the constructor", all[0].getParameterCount(), 0);
        Check.same("the constructor is public", all[0].getModifiers(), Modifier.PUBLIC);
    }

    private static void methods() {
        List<String> due = new ArrayList<>(Arrays.asList(METHODS));
        List<String> got = new ArrayList<>();
        List<String> privateNames = new ArrayList<>();
        for (Method method : IssueDesk.class.getDeclaredMethods()) {
            if (isPrivate(method)) {
                privateNames.add(method.getName());
            } else {
                got.add(told(method));
            }
        }
        Collections.sort(due);
        Collections.sort(got);
        Check.same("methods " + got + " are " + due, got.equals(due), true);
        for (String line : METHODS) {
            String name = line.substring(line.indexOf(' ') + 1, line.indexOf('('));
            Check.same("a private method " + name, privateNames.contains(name), false);
        }
    }

    private static boolean isPrivate(Member member) {
        return Modifier.isPrivate(member.getModifiers());
    }

    private static String told(Method method) {
        StringBuilder text = new StringBuilder();
        if (method.getModifiers() != Modifier.PUBLIC) {
            text.append(Modifier.toString(method.getModifiers())).append(' ');
        }
        text.append(method.getReturnType().getSimpleName()).append(' ').append(method.getName()).append('(');
        for (int i = 0; i < method.getParameterCount(); i++) {
            text.append(i == 0 ? "" : ",").append(method.getParameterTypes()[i].getSimpleName());
        }
        text.append(')');
        for (Class<?> thrown : method.getExceptionTypes()) {
            text.append(' ').append(thrown.getSimpleName());
        }
        return text.toString();
    }
}
