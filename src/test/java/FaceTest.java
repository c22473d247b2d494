import java.lang.reflect.Constructor;
import java.lang.reflect.Field;
import java.lang.reflect.Method;
import java.lang.reflect.Modifier;
import java.nio.file.Files;
import java.nio.file.Path;
import java.util.Set;
import java.util.TreeSet;

/** The face of the class, and those rules of LANGUAGE.md that can be seen from outside or from the words of the file. */
public final class FaceTest {
    private static final String[] METHODS = {
        "int spot(int,int)", "int under(int,int)", "int hand(int,int,int)", "int fall(int,int,int,int)",
        "int out(int)", "int falls(int,int)", "long darts(int,int)", "int dartsCut(int,int)",
        "int thousandths(int,int)", "int aim(int,int)", "long chance(int,int,int)", "int chanceAim(int,int,int)",
        "long race(int,int,int)", "int raceAim(int,int,int)", "int settled(int,int)", "int percent(int,int)",
        "int ways(int,int)", "int way(int,int,int)", "int spell(int,int)", "int start(int)", "int thrown(int)",
        "int throwsAt(int)", "int minds(int)", "int seed(int)", "int average(int)", "int told(int)",
        "int feed(int)", "int clear()", "int judge(int)", "int play()", "int paper(int)",
        "int rack(int,int,int)", "int lays(int,int,int)", "int laid(int,int)", "int like(int,int)",
        "int judged(int,int,int)", "int image()", "int undo()"};
    private static final String[] FORBIDDEN = {
        "Double.", "Float.", "Exact(", "->", "::", "static {", "catch", "throw new", "synchronized", "assert",
        "record ", "java.util.*", "Random", "nanoTime", "currentTime", "String.format", "finally", "public static void"};

    public static void main(String[] args) throws Exception {
        Checks checks = new Checks("FaceTest");
        checkFace(checks);
        for (Class<?> inner : DartMind.class.getDeclaredClasses()) {
            checkInner(checks, inner);
        }
        String text = Files.readString(Path.of(args.length > 0 ? args[0] : "src/main/java/DartMind.java"));
        for (String word : FORBIDDEN) {
            checks.holds("the file is without '" + word + "'", !text.contains(word));
        }
        checks.end();
    }

    private static void checkFace(Checks checks) throws Exception {
        Class<?> face = DartMind.class;
        checks.holds("public final", Modifier.isPublic(face.getModifiers()) && Modifier.isFinal(face.getModifiers()));
        Set<String> found = new TreeSet<>();
        for (Method method : face.getDeclaredMethods()) {
            if (!Modifier.isPrivate(method.getModifiers())) {
                found.add(told(method));
                checks.holds(method + " is public", Modifier.isPublic(method.getModifiers()));
            }
        }
        checks.holds("methods " + found, found.equals(new TreeSet<>(Set.of(METHODS))));
        for (Constructor<?> one : face.getDeclaredConstructors()) {
            checks.holds(one.toString(), Modifier.isPublic(one.getModifiers()) && one.getParameterCount() == 0);
        }
        for (Field field : face.getDeclaredFields()) {
            boolean constant = Set.of("NONE", "BAD", "STATE", "FULL").contains(field.getName());
            checks.holds(field.toString(), constant
                    ? field.toGenericString().startsWith("public static final int ")
                    : Modifier.isPrivate(field.getModifiers()));
        }
        checks.due("NONE", DartMind.NONE, -1);
        checks.due("BAD", DartMind.BAD, -2);
        checks.due("STATE", DartMind.STATE, -3);
        checks.due("FULL", DartMind.FULL, -4);
    }

    private static void checkInner(Checks checks, Class<?> inner) {
        int is = inner.getModifiers();
        checks.holds(inner + " is hidden and static",
                Modifier.isStatic(is) && !Modifier.isPublic(is) && !Modifier.isProtected(is));
        for (Method method : inner.getDeclaredMethods()) {
            for (String told : METHODS) {
                checks.holds(method + " has a name of its own", !told.contains(" " + method.getName() + "("));
            }
        }
        int fields = 0;
        for (Field field : inner.getDeclaredFields()) {
            boolean shared = Modifier.isStatic(field.getModifiers());
            fields += shared ? 0 : 1;
            checks.holds(field + " is final, if static", !shared || Modifier.isFinal(field.getModifiers()));
        }
        checks.holds(inner + " has at most 20 fields", fields <= 20);
    }

    private static String told(Method method) {
        StringBuilder text = new StringBuilder(method.getReturnType() + " " + method.getName() + "(");
        for (int i = 0; i < method.getParameterCount(); i++) {
            text.append(i > 0 ? "," : "").append(method.getParameterTypes()[i]);
        }
        return text.append(")").toString();
    }
}
