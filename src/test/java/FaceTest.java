import java.lang.reflect.Constructor;
import java.lang.reflect.Field;
import java.lang.reflect.Method;
import java.lang.reflect.Modifier;
import java.util.Set;
import java.util.TreeSet;

/** The public face of the document, and no other member that can be seen from outside. */
public final class FaceTest {
    private static final String[] METHODS = {
        "process(int)", "thread(int,int)", "create(int,int,int)", "open(int,int)", "close(int)", "rule(int,int,int,int)",
        "set(int,int)", "await(int,int,int,int,int)", "call(int,int)", "level(int)", "interrupt(int,boolean)",
        "transfer(int,int,int,int)", "cancel(int)", "exit()", "tick(int)", "actor(int,int)", "object(int,int)",
        "io(int,int)", "handle(int,int,int)", "count(int)"};
    private static final String[] CONSTANTS = {
        "REFUSED=-1", "FULL=-2", "NOBODY=-3", "HIGH=-4", "DENIED=-5", "TAKEN=-6", "NONE=-7", "LIMIT=-8", "NOT_OWNER=-9",
        "WAITING=-10", "TIMEOUT=-11", "ALERTED=-12",
        "PENDING=0", "WELL=1", "TOO_LONG=2", "BEYOND=3", "BROKEN=4", "CANCELLED=5"};

    public static void main(String[] args) throws IllegalAccessException {
        Checks c = new Checks("FaceTest");
        Class<?> face = ExecutiveDesk.class;
        c.due("the class is public", 1, Modifier.isPublic(face.getModifiers()) ? 1 : 0);
        c.due("the class is final", 1, Modifier.isFinal(face.getModifiers()) ? 1 : 0);

        Set<String> methods = new TreeSet<>();
        Set<String> publicNames = new TreeSet<>();
        Set<String> privateNames = new TreeSet<>();
        for (Method method : face.getDeclaredMethods()) {
            if (Modifier.isPrivate(method.getModifiers())) {
                privateNames.add(method.getName());
                continue;
            }
            String full = method.toString();
            methods.add(full.substring(full.indexOf("ExecutiveDesk.") + "ExecutiveDesk.".length()));
            publicNames.add(method.getName());
            c.due(full + " is public and answers an int", 1,
                Modifier.isPublic(method.getModifiers()) && method.getReturnType() == int.class ? 1 : 0);
        }
        c.due("the methods " + methods, 1, methods.equals(Set.of(METHODS)) ? 1 : 0);
        privateNames.retainAll(publicNames);
        c.due("private methods with public names: " + privateNames, 0, privateNames.size());

        Set<String> constants = new TreeSet<>();
        for (Field field : face.getDeclaredFields()) {
            if (!Modifier.isPrivate(field.getModifiers())) {
                constants.add(field.getName() + "=" + field.getInt(null));
                c.due(field + " is public static final", Modifier.PUBLIC | Modifier.STATIC | Modifier.FINAL, field.getModifiers());
            }
        }
        c.due("the constants " + constants, 1, constants.equals(Set.of(CONSTANTS)) ? 1 : 0);

        Constructor<?>[] constructors = face.getDeclaredConstructors();
        c.due("constructors", 1, constructors.length);
        c.due("the constructor's parameters", 0, constructors[0].getParameterCount());
        c.due("the constructor is public", 1, Modifier.isPublic(constructors[0].getModifiers()) ? 1 : 0);
        c.end();
    }
}
