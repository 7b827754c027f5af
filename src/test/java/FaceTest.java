import java.io.IOException;
import java.lang.reflect.Constructor;
import java.lang.reflect.Field;
import java.lang.reflect.Method;
import java.lang.reflect.Modifier;
import java.nio.file.Files;
import java.nio.file.Path;
import java.util.ArrayList;
import java.util.Arrays;
import java.util.List;
import java.util.Set;
import java.util.TreeMap;
import java.util.TreeSet;
import java.util.Map;
import java.util.regex.Matcher;
import java.util.regex.Pattern;

/** The face of the class, and what of LANGUAGE.md can be seen by reflection or in the text of the file. */
public final class FaceTest {
    private static final Check check = new Check();

    private static final Path SOURCE = Path.of("src/main/java/NailedOrders.java");

    private static final String[] METHODS = {
        "int addPerson(int)", "int setRank(int, int)", "int setTolerance(int)", "int nail(int, int, int, int)",
        "int nailLink(int, int, int, int, int, int)", "int tear(int)", "int hammer(int)", "int storm(int)",
        "int type(char)", "int clearText()", "int readOrders(int, int)", "int undo()", "int keep()", "int restore()",
        "float value(int)", "float valueOf(int)", "int word(int, int)", "int hangsAt(int, int)", "int order(int, int)",
        "float real(int, int)", "int reason(int, int)", "int changesWithout(int)", "int stormsLeft(int, int)",
        "int person(int, int)", "int count(int)",
    };

    private static final String[] FORBIDDEN = {
        "import", "package", "assert", "synchronized", "finally", "->", "::", "instanceof", "catch", "throw", "Math\\.",
        "Float\\.", "Float\\b", "double", "native", "volatile", "transient", "protected", "NaN", "Infinity", "Object",
        "String\\.format", "System\\.(?!arraycopy\\()",
    };

    public static void main(String[] args) throws IOException {
        constants();
        members();
        nested();
        text();
        check.end();
    }

    private static void constants() {
        check.promise("the constants");
        check.due("UNKNOWN", NailedOrders.UNKNOWN, -1);
        check.due("BAD_VALUE", NailedOrders.BAD_VALUE, -2);
        check.due("FULL", NailedOrders.FULL, -3);
        check.due("NOT_POSSIBLE", NailedOrders.NOT_POSSIBLE, -4);
        check.due("NONE", NailedOrders.NONE, -5);
    }

    private static String face(Method method) {
        List<String> types = new ArrayList<>();
        for (Class<?> type : method.getParameterTypes()) {
            types.add(type.getName());
        }
        return method.getReturnType().getName() + " " + method.getName() + "(" + String.join(", ", types) + ")";
    }

    private static void members() {
        check.promise("the face");
        check.dueTrue("public and final", NailedOrders.class.getModifiers() ==
                (Modifier.PUBLIC | Modifier.FINAL));
        Set<String> methods = new TreeSet<>();
        Set<String> names = new TreeSet<>();
        for (Method method : NailedOrders.class.getDeclaredMethods()) {
            if (Modifier.isPublic(method.getModifiers())) {
                methods.add(face(method));
                names.add(method.getName());
                check.dueTrue(method + " is not static", !Modifier.isStatic(method.getModifiers()));
            }
        }
        check.dueTrue("the public methods: " + methods, methods.equals(new TreeSet<>(Arrays.asList(METHODS))));
        for (Method method : NailedOrders.class.getDeclaredMethods()) {
            if (!Modifier.isPublic(method.getModifiers())) {
                check.dueTrue(method + " is private", Modifier.isPrivate(method.getModifiers()));
                check.dueTrue(method + " has a name of its own", !names.contains(method.getName()));
            }
        }
        Map<String, Boolean> fields = new TreeMap<>();
        for (Field field : NailedOrders.class.getDeclaredFields()) {
            fields.put(field.getName(), Modifier.isPrivate(field.getModifiers()));
        }
        fields.entrySet().removeIf(Map.Entry::getValue);
        check.dueTrue("the fields that are not private: " + fields.keySet(),
                fields.keySet().equals(Set.of("UNKNOWN", "BAD_VALUE", "FULL", "NOT_POSSIBLE", "NONE")));
        Constructor<?>[] constructors = NailedOrders.class.getDeclaredConstructors();
        check.due("constructors", constructors.length, 1);
        check.due("their parameters", constructors[0].getParameterCount(), 0);
        check.dueTrue("public", Modifier.isPublic(constructors[0].getModifiers()));
    }

    private static void nested() {
        check.promise("the classes inside");
        Class<?>[] nested = NailedOrders.class.getDeclaredClasses();
        check.dueTrue("at most twelve classes", nested.length < 12);
        Set<String> names = new TreeSet<>();
        for (String method : METHODS) {
            names.add(method.replaceAll("\\(.*|.* ", ""));
        }
        for (Class<?> inside : nested) {
            check.dueTrue(inside + " is static", Modifier.isStatic(inside.getModifiers()));
            check.dueTrue(inside + " is not public", !Modifier.isPublic(inside.getModifiers()));
            int fields = 0;
            for (Field field : inside.getDeclaredFields()) {
                fields += Modifier.isStatic(field.getModifiers()) ? 0 : 1;
                check.dueTrue(field + " is no state of the class", !Modifier.isStatic(field.getModifiers())
                        || Modifier.isFinal(field.getModifiers()) && field.getType() != float.class);
            }
            check.dueTrue(inside + " has at most twenty fields", fields <= 20);
            for (Method method : inside.getDeclaredMethods()) {
                check.dueTrue(method + " has a name of its own", !names.contains(method.getName()));
                check.dueTrue(method + " takes at most seven", method.getParameterCount() <= 7);
            }
        }
    }

    private static void text() throws IOException {
        check.promise("the text of the file");
        String source = Files.readString(SOURCE);
        String code = source.replaceAll("(?s)/\\*.*?\\*/", "").replaceAll("//[^\n]*", "");
        for (String forbidden : FORBIDDEN) {
            String word = Character.isLetter(forbidden.charAt(0)) ? "\\b" + forbidden : forbidden;
            Matcher matcher = Pattern.compile(word).matcher(code);
            check.dueTrue("no " + forbidden, !matcher.find());
        }
        check.dueTrue("no static float", !Pattern.compile("static final float").matcher(code).find());
        check.dueTrue("signs 1 to 127 alone", source.chars().allMatch(sign -> sign < 128));
    }
}
