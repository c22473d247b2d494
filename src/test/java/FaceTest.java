import java.lang.reflect.Constructor;
import java.lang.reflect.Field;
import java.lang.reflect.Method;
import java.lang.reflect.Modifier;
import java.nio.file.Files;
import java.nio.file.Path;
import java.util.Set;
import java.util.TreeSet;
import java.util.regex.Matcher;
import java.util.regex.Pattern;

/** The face of the class, and those rules of LANGUAGE.md that can be seen from outside or from the words of the file. */
public final class FaceTest {
    private static final String[] METHODS = {
        "int spot(int,int)", "int under(int,int)", "int hand(int,int,int)", "int fall(int,int,int,int)",
        "int out(int)", "int falls(int,int)", "long darts(int,int)", "int dartsCut(int,int)",
        "int thousandths(int,int)", "int aim(int,int)", "long chance(int,int,int)", "int chanceAim(int,int,int)",
        "long race(int,int,int)", "int raceAim(int,int,int)", "int settled(int,int)", "int percent(int,int)",
        "int ways(int,int)", "int way(int,int,int)", "int spell(int,int)", "int start(int)", "int thrown(int)",
        "int throwsAt(int)", "int minds(int)", "int seed(int)", "int average(int)", "int told(int)",
        "int feed(int)", "int clear()", "int judge(int)", "int play()", "int paper(int)",
        "int rack(int,int,int)", "int lays(int,int,int)", "int laid(int,int)", "int like(int,int)",
        "int judged(int,int,int)", "int image()", "int undo()"};
    private static final String[] FORBIDDEN = {
        "Double.", "Float.", "Exact(", "->", "::", "static {", "catch", "throw new", "synchronized", "assert",
        "record ", "java.util.*", "Random", "nanoTime", "currentTime", "String.format", "finally", "public static void",
        "MIN_VALUE", "MAX_VALUE", "\""};
    // All of the library that the class has use for, out of what rule 4 lists.
    private static final Set<String> LIBRARY = Set.of("Arrays.fill", "System.arraycopy", "Math.floorMod");
    private static final int MOST_CLASSES = 12, MOST_LINES = 60, MOST_PARAMETERS = 7, MOST_FIELDS = 20;

    public static void main(String[] args) throws Exception {
        Checks checks = new Checks("FaceTest");
        checkFace(checks);
        for (Class<?> inner : DartMind.class.getDeclaredClasses()) {
            checkInner(checks, inner);
        }
        String text = Files.readString(Path.of(args.length > 0 ? args[0] : "src/main/java/DartMind.java"));
        for (String word : FORBIDDEN) {
            checks.holds("the file is without '" + word + "'", !text.contains(word));
        }
        checkLibrary(checks, text);
        checkSizes(checks, text);
        checks.end();
    }

    /** Rule 4: no name of the library but those of the list. */
    private static void checkLibrary(Checks checks, String text) {
        Matcher imports = Pattern.compile("(?m)^import (.*);$").matcher(text);
        while (imports.find()) {
            checks.holds("import " + imports.group(1), imports.group(1).equals("java.util.Arrays"));
        }
        Matcher names = Pattern.compile("\\b[A-Z][a-z]\\w*\\.\\w+").matcher(text);
        while (names.find()) {
            String owner = names.group().substring(0, names.group().indexOf('.'));
            boolean own = text.contains(" class " + owner + " {");
            checks.holds(names.group() + " is of rule 4's list", own || LIBRARY.contains(names.group()));
        }
    }

    /** Rule 11: how many classes, how long the methods. */
    private static void checkSizes(Checks checks, String text) {
        checks.holds("at most 12 classes", DartMind.class.getDeclaredClasses().length + 1 <= MOST_CLASSES);
        int depth = 0;
        int begun = 0;
        String[] lines = text.split("\n");
        for (int i = 0; i < lines.length; i++) {
            String code = lines[i].replaceAll("//.*|'.'", "");
            if (code.endsWith(") {") && code.matches(" {4}(?: {4})?(?! )(?!for|if|while|switch).*")) {
                depth = code.indexOf(code.trim());
                begun = i;
            }
            if (begun > 0 && code.equals(" ".repeat(depth) + "}")) {
                checks.holds("line " + (begun + 1) + ": a short method", i - begun < MOST_LINES);
                begun = 0;
            }
        }
    }

    private static void checkFace(Checks checks) throws Exception {
        Class<?> face = DartMind.class;
        checks.holds("public final", Modifier.isPublic(face.getModifiers()) && Modifier.isFinal(face.getModifiers()));
        Set<String> found = new TreeSet<>();
        for (Method method : face.getDeclaredMethods()) {
            if (!Modifier.isPrivate(method.getModifiers())) {
                found.add(told(method));
                checks.holds(method + " is public", Modifier.isPublic(method.getModifiers()));
            }
        }
        checks.holds("methods " + found, found.equals(new TreeSet<>(Set.of(METHODS))));
        for (Constructor<?> one : face.getDeclaredConstructors()) {
            checks.holds(one.toString(), Modifier.isPublic(one.getModifiers()) && one.getParameterCount() == 0);
        }
        for (Field field : face.getDeclaredFields()) {
            boolean constant = Set.of("NONE", "BAD", "STATE", "FULL").contains(field.getName());
            checks.holds(field.toString(), constant
                    ? field.toGenericString().startsWith("public static final int ")
                    : Modifier.isPrivate(field.getModifiers()));
            checks.holds(field + " is final, if static",
                    !Modifier.isStatic(field.getModifiers()) || Modifier.isFinal(field.getModifiers()));
        }
        checks.due("NONE", DartMind.NONE, -1);
        checks.due("BAD", DartMind.BAD, -2);
        checks.due("STATE", DartMind.STATE, -3);
        checks.due("FULL", DartMind.FULL, -4);
    }

    private static void checkInner(Checks checks, Class<?> inner) {
        int is = inner.getModifiers();
        checks.holds(inner + " is hidden and static",
                Modifier.isStatic(is) && !Modifier.isPublic(is) && !Modifier.isProtected(is));
        for (Method method : inner.getDeclaredMethods()) {
            for (String told : METHODS) {
                checks.holds(method + " has a name of its own", !told.contains(" " + method.getName() + "("));
            }
            checks.holds(method + " takes few parameters", method.getParameterCount() <= MOST_PARAMETERS);
        }
        int fields = 0;
        for (Field field : inner.getDeclaredFields()) {
            boolean shared = Modifier.isStatic(field.getModifiers());
            fields += shared ? 0 : 1;
            checks.holds(field + " is final, if static", !shared || Modifier.isFinal(field.getModifiers()));
        }
        checks.holds(inner + " has at most 20 fields", fields <= MOST_FIELDS);
    }

    private static String told(Method method) {
        StringBuilder text = new StringBuilder(method.getReturnType() + " " + method.getName() + "(");
        for (int i = 0; i < method.getParameterCount(); i++) {
            text.append(i > 0 ? "," : "").append(method.getParameterTypes()[i]);
        }
        return text.append(")").toString();
    }
}
