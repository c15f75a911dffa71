import java.io.IOException;
import java.lang.reflect.Constructor;
import java.lang.reflect.Field;
import java.lang.reflect.Member;
import java.lang.reflect.Method;
import java.lang.reflect.Modifier;
import java.nio.file.Files;
import java.nio.file.Path;
import java.util.Set;
import java.util.TreeSet;

/** The public face, and the rules of LANGUAGE.md that can be seen from outside. */
public final class FaceTest {
    private static final String INDEX = " IndexOutOfBoundsException";
    private static final String ARGUMENT = " IllegalArgumentException";
    private static final String STATE = " IllegalStateException";
    private static final String[] FACE = {
        "void steel(4)" + INDEX + ARGUMENT, "int melt(1)" + INDEX + STATE,
        "int billet(2)" + INDEX + ARGUMENT + STATE, "int billetIs(2)" + INDEX + ARGUMENT,
        "int area(2)" + INDEX, "boolean balances(1)" + INDEX,
        "int heat(3)" + INDEX + ARGUMENT + STATE, "int cool(2)" + INDEX + ARGUMENT,
        "int blow(4)" + INDEX + ARGUMENT + STATE, "int cut(3)" + INDEX + ARGUMENT,
        "int die(0)" + STATE, "int shape(3)" + INDEX + ARGUMENT, "int sink(1)" + INDEX,
        "int press(3)" + INDEX + ARGUMENT + STATE, "int quench(2)" + ARGUMENT + STATE,
        "int temper(2)" + INDEX + ARGUMENT + STATE, "int hardness(2)" + INDEX,
        "int test(1)" + INDEX + STATE, "int paper(2)" + INDEX + ARGUMENT,
        "int layer(2)" + INDEX + ARGUMENT + STATE, "int fewest(2)" + INDEX + ARGUMENT,
        "int first(2)" + INDEX + ARGUMENT, "int job(1)" + ARGUMENT + STATE,
        "int planned(1)" + ARGUMENT, "int run(0)"};
    private static final String CONSTANTS =
            "[CUT=2, DRAW=0, FOLD=0, NONE=-1, OIL=0, TWIST=1, UPSET=1, WATER=1]";
    private static final String[] RULED_OUT = {"->", "::", "synchronized", "assert", "finally", "static {",
        "Exact(", "System.in", "System.out", "System.nano", "System.current", "Thread", "Random", "package "};

    private FaceTest() {
    }

    public static void main(String[] args) throws IOException, IllegalAccessException {
        methods();
        constants();
        members();
        source();
        Check.end();
    }

    private static void methods() {
        Set<String> got = new TreeSet<>();
        Set<String> names = new TreeSet<>();
        for (Method method : AnvilHouse.class.getDeclaredMethods()) {
            if (Modifier.isPublic(method.getModifiers())) {
                got.add(signature(method));
                names.add(method.getName());
            }
        }
        Check.same("the methods of the face", new TreeSet<>(Set.of(FACE)).toString(), got.toString());
        for (Method method : AnvilHouse.class.getDeclaredMethods()) {
            Check.holds("a private method is named " + method.getName(),
                    Modifier.isPublic(method.getModifiers()) || !names.contains(method.getName()));
        }
    }

    private static String signature(Method method) {
        StringBuilder all = new StringBuilder(method.getReturnType() + " " + method.getName());
        all.append('(').append(method.getParameterCount()).append(')');
        for (Class<?> parameter : method.getParameterTypes()) {
            Check.holds(method.getName() + " takes ints", parameter == int.class);
        }
        for (Class<?> kind : method.getExceptionTypes()) {
            all.append(' ').append(kind.getSimpleName());
        }
        return all.toString();
    }

    private static void constants() throws IllegalAccessException {
        Set<String> got = new TreeSet<>();
        for (Field field : AnvilHouse.class.getFields()) {
            got.add(field.getName() + "=" + field.getInt(null));
        }
        Check.same("the constants", CONSTANTS, got.toString());
    }

    private static void members() {
        Check.holds("the class is public and final",
                AnvilHouse.class.getModifiers() == (Modifier.PUBLIC | Modifier.FINAL));
        Constructor<?>[] constructors = AnvilHouse.class.getDeclaredConstructors();
        Check.due("constructors", 1, constructors.length);
        Check.holds("the constructor is public and takes nothing",
                Modifier.isPublic(constructors[0].getModifiers()) && constructors[0].getParameterCount() == 0);
        publicOrPrivate(AnvilHouse.class.getDeclaredMethods());
        publicOrPrivate(AnvilHouse.class.getDeclaredFields());
        noStaticState(AnvilHouse.class);
        for (Class<?> inside : AnvilHouse.class.getDeclaredClasses()) {
            Check.holds(inside + " is static and not public", Modifier.isStatic(inside.getModifiers())
                    && !Modifier.isPublic(inside.getModifiers()) && !Modifier.isProtected(inside.getModifiers()));
            noStaticState(inside);
        }
    }

    private static void publicOrPrivate(Member[] members) {
        for (Member member : members) {
            Check.holds(member + " is neither public nor private",
                    (member.getModifiers() & (Modifier.PUBLIC | Modifier.PRIVATE)) != 0);
        }
    }

    private static void noStaticState(Class<?> kind) {
        for (Field field : kind.getDeclaredFields()) {
            Check.holds(field + " is static state", !Modifier.isStatic(field.getModifiers())
                    || Modifier.isFinal(field.getModifiers()) && field.getType() == int.class);
        }
    }

    private static void source() throws IOException {
        String source = Files.readString(Path.of("src/main/java/AnvilHouse.java"));
        for (int i = 0; i < source.length(); i++) {
            Check.holds("a sign above 127", source.charAt(i) < 128);
        }
        for (String line : source.split("\n")) {
            String code = line.strip();
            if (code.startsWith("*") || code.startsWith("/")) {
                continue;
            }
            for (String word : RULED_OUT) {
                Check.holds("a line has " + word + ": " + code, !code.contains(word));
            }
            Check.holds("an import beyond the two lists: " + code, !code.startsWith("import ")
                    || code.equals("import java.util.ArrayList;") || code.equals("import java.util.Arrays;"));
        }
    }
}
