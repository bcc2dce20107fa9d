import java.lang.reflect.Constructor;
import java.lang.reflect.Field;
import java.lang.reflect.Method;
import java.lang.reflect.Modifier;
import java.util.Set;
import java.util.TreeSet;

/** Promise 1 (a new object), and the public face as the document writes it. */
public final class FaceTest {
    private static final Set<String> FACE = Set.of(
            "int feed(int,int,int,int,int)", "boolean end(int)", "void weather(int,int,int)",
            "void foretell(int,int,int)", "int hive(int,int,int,int,int)",
            "int keeper(int,int,int,int,int,int,int)", "int boxes(int,int)", "int hours(int)", "int call()",
            "int rota()", "int fault()", "int send(int)", "int asked(int,int)", "int left(int,boolean)",
            "int most()", "int origin(int)", "int look(int,int)", "int swarm(int,int)", "int crew(int,int)",
            "int matter(int,int)", "int count(int)");

    public static void main(String[] args) {
        Check check = new Check("FaceTest");
        newObject(check);
        face(check);
        objectsAreApart(check);
        check.finish();
    }

    private static void newObject(Check check) {
        SwarmLine line = new SwarmLine();
        check.due("NONE", -1, SwarmLine.NONE);
        check.dueRow("count of a new object", new int[12], line::count);
        check.due("fault()", -1, line.fault());
        check.due("most()", 0, line.most());
        check.due("asked(0, 0)", -1, line.asked(0, 0));
        check.due("end(1)", false, line.end(1));
        check.due("feed", 20, line.feed(0, 0, 0, 0, 0));
        check.dueThrow("look(0, 0)", IndexOutOfBoundsException.class, () -> line.look(0, 0));
        check.dueThrow("swarm(0, 0)", IndexOutOfBoundsException.class, () -> line.swarm(0, 0));
        check.dueThrow("crew(0, 0)", IndexOutOfBoundsException.class, () -> line.crew(0, 0));
        check.dueThrow("matter(0, 0)", IndexOutOfBoundsException.class, () -> line.matter(0, 0));
    }

    private static void face(Check check) {
        Class<?> type = SwarmLine.class;
        check.due("public and final", Modifier.PUBLIC | Modifier.FINAL, type.getModifiers());
        Set<String> seen = new TreeSet<>();
        for (Method method : type.getDeclaredMethods()) {
            if (!Modifier.isPrivate(method.getModifiers())) {
                seen.add(written(method));
                check.due(method + " is public alone", Modifier.PUBLIC, method.getModifiers());
            }
        }
        if (!seen.equals(FACE)) {
            check.tell("the face is " + seen);
        }
        for (Method method : type.getDeclaredMethods()) {
            boolean hasPublicName = FACE.stream().anyMatch(f -> f.contains(" " + method.getName() + "("));
            check.due(method + " has a public name", !Modifier.isPrivate(method.getModifiers()), hasPublicName);
        }
        for (Field field : type.getDeclaredFields()) {
            check.due(field + " is public", field.getName().equals("NONE"), !Modifier.isPrivate(field.getModifiers()));
        }
        for (Constructor<?> constructor : type.getDeclaredConstructors()) {
            check.due("parameters of " + constructor, 0, constructor.getParameterCount());
        }
    }

    private static String written(Method method) {
        StringBuilder text = new StringBuilder(method.getReturnType() + " " + method.getName() + "(");
        for (Class<?> parameter : method.getParameterTypes()) {
            text.append(text.charAt(text.length() - 1) == '(' ? "" : ",").append(parameter);
        }
        return text.append(")").toString();
    }

    private static void objectsAreApart(Check check) {
        SwarmLine one = new SwarmLine();
        SwarmLine other = new SwarmLine();
        String fresh = Check.stateOf(other);
        one.keeper(0, 0, 1, 9, 1, 0, 23);
        one.hive(0, 0, 5000, 1000, 1);
        Check.rota(one, "else:0");
        Check.call(one, "at 1 1");
        one.send(0);
        one.hours(100);
        one.feed(1, 2, 3, 4, 5);
        check.dueState("another object", fresh, Check.stateOf(other));
        check.due("the other tape", false, other.end(1));
    }
}
