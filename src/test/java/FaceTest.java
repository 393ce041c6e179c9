import java.io.IOException;
import java.lang.reflect.Constructor;
import java.lang.reflect.Executable;
import java.lang.reflect.Field;
import java.lang.reflect.Method;
import java.lang.reflect.Modifier;
import java.nio.file.Files;
import java.nio.file.Path;
import java.util.HashSet;
import java.util.Set;
import java.util.TreeSet;

/** The class's face, and those rules of LANGUAGE.md that can be seen in the class file or the words of the source. */
public final class FaceTest {
    private static final Check CHECK = new Check("FaceTest");
    private static final String SOURCE = "src/main/java/EnclosureReferee.java";

    /** Return type, name, parameters and exceptions, as the document has them. */
    private static final String[] METHODS = {
        "int start(int, int, int) IllegalArgumentException",
        "int setRule(int) IllegalArgumentException",
        "int setBonus(int, int) IndexOutOfBoundsException IllegalArgumentException",
        "int play(int, int) IndexOutOfBoundsException IllegalStateException UnsupportedOperationException",
        "int undo() IllegalStateException",
        "boolean isOver()",
        "int cell(int, int) IndexOutOfBoundsException",
        "int since(int, int) IndexOutOfBoundsException IllegalArgumentException",
        "int count(int) IllegalArgumentException",
        "int player(int, int) IndexOutOfBoundsException IllegalArgumentException",
        "long region(int, int) IndexOutOfBoundsException NoSuchElementException",
        "long cells(int) IllegalArgumentException",
        "long chain(int) IndexOutOfBoundsException NoSuchElementException",
        "int stonesToEnclose(int, int) IndexOutOfBoundsException NoSuchElementException",
        "double share(int) IndexOutOfBoundsException",
        "int round(int, int) IndexOutOfBoundsException IllegalArgumentException",
        "int turningPoint() NoSuchElementException",
        "int guarantee(int, int, int) IndexOutOfBoundsException IllegalArgumentException IllegalStateException",
        "int best(int, int) IndexOutOfBoundsException IllegalArgumentException IllegalStateException",
        "int levels()",
        "int report(int, int) NoSuchElementException IllegalArgumentException",
        "int feed(char) IllegalStateException",
        "int readRecord() UnsupportedOperationException",
        "char written(int) IndexOutOfBoundsException",
        "int save()",
        "int restore() IllegalStateException",
    };

    /** None of these may stand in the source. */
    private static final String[] FORBIDDEN = {
        "->", "::", "try ", "catch", "finally", "synchronized", "assert", "throws Exception", "Exact(", "hashCode",
        "equals", "toString", "static {", "while (true)", "for (;;)", "\" +", "+ \"", "System.out", "Random", "Thread",
        "nanoTime", "currentTime", "java.io", "java.net", "java.lang", "package ",
    };

    private FaceTest() {
    }

    public static void main(String[] args) throws IOException {
        methods();
        constructorAndConstant();
        members();
        innerClasses();
        source(Files.readString(Path.of(SOURCE)));
        CHECK.end();
    }

    private static void methods() {
        Set<String> found = new TreeSet<>();
        for (Method method : EnclosureReferee.class.getDeclaredMethods()) {
            if (!Modifier.isPrivate(method.getModifiers())) {
                CHECK.same(method + " is public alone", method.getModifiers(), Modifier.PUBLIC);
                found.add(method.getReturnType() + " " + method.getName() + shape(method));
            }
        }
        CHECK.same("the methods", found.toString(), new TreeSet<>(Set.of(METHODS)).toString());
    }

    private static String shape(Executable executable) {
        StringBuilder text = new StringBuilder("(");
        for (Class<?> parameter : executable.getParameterTypes()) {
            text.append(text.length() > 1 ? ", " : "").append(parameter);
        }
        text.append(')');
        for (Class<?> thrown : executable.getExceptionTypes()) {
            text.append(' ').append(thrown.getSimpleName());
        }
        return text.toString();
    }

    private static void constructorAndConstant() {
        Constructor<?>[] constructors = EnclosureReferee.class.getDeclaredConstructors();
        CHECK.same("one constructor", constructors.length, 1);
        CHECK.same("it is public", constructors[0].getModifiers(), Modifier.PUBLIC);
        CHECK.same("without parameters", shape(constructors[0]), "()");
        Set<String> found = new TreeSet<>();
        for (Field field : EnclosureReferee.class.getDeclaredFields()) {
            if (!Modifier.isPrivate(field.getModifiers())) {
                found.add(Modifier.toString(field.getModifiers()) + " " + field.getType() + " " + field.getName());
            }
        }
        CHECK.same("the fields", found.toString(), "[public static final int PASS]");
    }

    private static void members() {
        Class<?> face = EnclosureReferee.class;
        CHECK.same("public and final", face.getModifiers(), Modifier.PUBLIC | Modifier.FINAL);
        CHECK.same("no package", face.getPackageName(), "");
        Set<String> open = new HashSet<>();
        for (Method method : face.getDeclaredMethods()) {
            if (!Modifier.isPrivate(method.getModifiers())) {
                open.add(method.getName());
            }
        }
        for (Class<?> type : face.getDeclaredClasses()) {
            for (Method method : type.getDeclaredMethods()) {
                CHECK.same(method + " bears the name of a public one", open.contains(method.getName()), false);
            }
        }
        for (Method method : face.getDeclaredMethods()) {
            if (Modifier.isPrivate(method.getModifiers())) {
                CHECK.same(method + " bears the name of a public one", open.contains(method.getName()), false);
            }
        }
    }

    private static void innerClasses() {
        Class<?>[] types = EnclosureReferee.class.getDeclaredClasses();
        CHECK.same("at most twelve classes", types.length < 12, true);
        for (Class<?> type : types) {
            CHECK.same(type + " is static", Modifier.isStatic(type.getModifiers()), true);
            CHECK.same(type + " is private", Modifier.isPrivate(type.getModifiers()), true);
            CHECK.same(type + " has few fields", type.getDeclaredFields().length <= 20, true);
            for (Field field : type.getDeclaredFields()) {
                boolean isShared = Modifier.isStatic(field.getModifiers());
                CHECK.same(field + " is final", isShared && !Modifier.isFinal(field.getModifiers()), false);
            }
        }
    }

    private static void source(String text) {
        for (String word : FORBIDDEN) {
            CHECK.same("the source holds " + word, text.contains(word), false);
        }
        int imports = 0;
        for (String line : text.split("\n")) {
            imports += line.startsWith("import ") ? 1 : 0;
            CHECK.same("a line of the source is long: " + line, line.length() <= 120, true);
        }
        CHECK.same("one import", imports, 1);
        CHECK.same("it is this one", text.startsWith("import java.util.NoSuchElementException;\n"), true);
        for (int i = 0; i < text.length(); i++) {
            CHECK.same("a sign of the source", text.charAt(i) < 128, true);
        }
    }
}
