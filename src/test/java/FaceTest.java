import java.lang.reflect.Field;
import java.lang.reflect.Method;
import java.lang.reflect.Modifier;
import java.util.ArrayList;
import java.util.Collections;
import java.util.List;
import java.util.TreeSet;

/** The public face is the document's and nothing more; no private method bears the name of a public one. */
public final class FaceTest {
    private static final Check check = new Check("FaceTest");

    private static final String[] METHODS = {
        "int wheel int int int int", "int of int int", "int turn int int int", "int drop", "int at int int",
        "long rounds int int", "int bind int int", "int rule int int", "int eclipse int int",
        "int eclipses int int int", "int next int int", "int family int int int", "int roll int int int int",
        "int drift int int", "int records int int", "int record int int", "int terms int", "int term int int",
        "long convergent int int int", "int nearest int int", "long date int int", "int month int",
        "long angle int int", "int size int int", "int most int int int int int", "long period int",
        "long allRound int", "int meeting int int int int", "int spell int", "int paper int int",
        "int gap int int int", "int feed int", "int read", "int tray int int int", "int lay int int int",
        "int laid int int int", "int like int int", "int list int int", "int put int int long", "long get int int",
        "int fill int int", "int judge int int", "int count int", "int image", "int undo",
    };

    public static void main(String[] args) throws ReflectiveOperationException {
        Class<?> face = EclipseWheel.class;
        check.due("public and final", face.getModifiers(), Modifier.PUBLIC | Modifier.FINAL);
        check.due("one constructor", face.getDeclaredConstructors().length, 1);
        check.due("public constructor", face.getConstructor().getModifiers(), Modifier.PUBLIC);
        methods(face);
        constants(face);
        check.end();
    }

    private static void methods(Class<?> face) {
        List<String> told = new ArrayList<>(List.of(METHODS));
        List<String> there = new ArrayList<>();
        TreeSet<String> publicNames = new TreeSet<>();
        List<String> privateNames = new ArrayList<>();
        for (Method m : face.getDeclaredMethods()) {
            if (Modifier.isPrivate(m.getModifiers())) {
                privateNames.add(m.getName());
                continue;
            }
            publicNames.add(m.getName());
            StringBuilder text = new StringBuilder(m.getReturnType() + " " + m.getName());
            for (Class<?> type : m.getParameterTypes()) {
                text.append(" ").append(type);
            }
            there.add(text.toString());
            check.due("public, no object's own static one: " + m, m.getModifiers(), Modifier.PUBLIC);
        }
        Collections.sort(told);
        Collections.sort(there);
        check.due("the methods " + there, there.equals(told) ? 1 : 0, 1);
        for (Class<?> inside : face.getDeclaredClasses()) {
            for (Method m : inside.getDeclaredMethods()) {
                privateNames.add(m.getName());
            }
            check.due("static class inside: " + inside, inside.getModifiers() & Modifier.STATIC, Modifier.STATIC);
        }
        for (String name : privateNames) {
            check.due("a private method named " + name, publicNames.contains(name) ? 1 : 0, 0);
        }
    }

    private static void constants(Class<?> face) throws ReflectiveOperationException {
        String[] names = {"NONE", "BAD", "STATE", "FULL", "NOT"};
        for (int i = 0; i < names.length; i++) {
            Field field = face.getField(names[i]);
            check.due("int " + names[i], field.getType() == int.class ? 1 : 0, 1);
            check.due(names[i], field.getInt(null), -1 - i);
        }
        check.due("long NO", face.getField("NO").getType() == long.class ? 1 : 0, 1);
        check.due("NO", face.getField("NO").getLong(null), Long.MIN_VALUE);
        int constant = Modifier.PUBLIC | Modifier.STATIC | Modifier.FINAL;
        int many = 0;
        for (Field field : face.getDeclaredFields()) {
            if (!Modifier.isPrivate(field.getModifiers())) {
                many++;
                check.due("constant " + field, field.getModifiers(), constant);
            }
        }
        check.due("six constants", many, 6);
    }
}
