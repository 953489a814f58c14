import java.lang.reflect.Constructor;
import java.lang.reflect.Field;
import java.lang.reflect.Method;
import java.lang.reflect.Modifier;
import java.nio.file.Files;
import java.nio.file.Path;
import java.util.ArrayList;
import java.util.List;
import java.util.TreeSet;
import java.util.regex.Matcher;
import java.util.regex.Pattern;

/** The public face as the document has it, and rules of LANGUAGE.md that can be seen from outside. */
public final class FaceTest {
    private static final String FACE =
        "row(II)I lay(III)I at(II)I tear(I)I copy(IIIII)I mean(I)I text(II)I put(III)I fault(I)I front(I)I one(II)I "
        + "mark(II)I turn()I spoon(I)I wind(I)I rain(I)I stand(II)I undo(I)I keep(I)I on(I)I gathers(II)I cloud(I)I "
        + "share(II)I first(I)I away(III)I best(II)I least(II)I sizes(II)I winds(II)I kinds(II)I next(II)I sets(I)I "
        + "sure(I)I duel(III)I odds(II)I mid(I)I lots(II)I asked()I upper()J lower()J count(I)I finding()I findings(I)I "
        + "digest()J";
    private static final Path SOURCE = Path.of("src/main/java/FlossRumours.java");

    public static void main(String[] args) throws Exception {
        constants();
        members();
        privateNames();
        source();
        Due.end();
    }

    private static void constants() {
        Due.is("BAD", FlossRumours.BAD, -1);
        Due.is("FULL", FlossRumours.FULL, -2);
        Due.is("FINDING", FlossRumours.FINDING, -3);
        Due.is("STATE", FlossRumours.STATE, -4);
        Due.is("SPENT", FlossRumours.SPENT, -6);
        Due.is("NONE", FlossRumours.NONE, -9);
    }

    private static void members() {
        Class<?> c = FlossRumours.class;
        Due.is("public final", c.getModifiers() & (Modifier.PUBLIC | Modifier.FINAL), Modifier.PUBLIC | Modifier.FINAL);
        TreeSet<String> seen = new TreeSet<>();
        for (Method m : c.getDeclaredMethods()) if (!Modifier.isPrivate(m.getModifiers())) seen.add(signature(m));
        Due.is("the methods: " + seen, seen.equals(new TreeSet<>(List.of(FACE.split(" ")))) ? 1 : 0, 1);
        int open = 0;
        for (Field f : c.getDeclaredFields()) if (!Modifier.isPrivate(f.getModifiers())) open++;
        Due.is("the constants", open, 6);
        Constructor<?>[] made = c.getDeclaredConstructors();
        Due.is("the constructor", made.length == 1 && Modifier.isPublic(made[0].getModifiers()) ? 1 : 0, 1);
        for (Field f : c.getDeclaredFields()) {
            boolean changes = Modifier.isStatic(f.getModifiers()) && !Modifier.isFinal(f.getModifiers());
            Due.is("static and not final: " + f.getName(), changes ? 1 : 0, 0);
        }
        Due.is("classes inside", c.getDeclaredClasses().length <= 12 ? 1 : 0, 1);
        for (Class<?> inside : c.getDeclaredClasses()) {
            Due.is("static: " + inside, Modifier.isStatic(inside.getModifiers()) ? 1 : 0, 1);
        }
    }

    private static String signature(Method m) {
        StringBuilder s = new StringBuilder(m.getName()).append('(');
        for (Class<?> p : m.getParameterTypes()) s.append(p.descriptorString());
        return s.append(')').append(m.getReturnType().descriptorString()).toString();
    }

    private static void privateNames() {
        List<Class<?>> all = new ArrayList<>(List.of(FlossRumours.class.getDeclaredClasses()));
        all.add(FlossRumours.class);
        for (Class<?> c : all) {
            for (Method m : c.getDeclaredMethods()) {
                boolean taken = !Modifier.isPublic(m.getModifiers()) && FACE.matches("(.* )?" + m.getName() + "\\(.*");
                Due.is("a name of the face: " + m.getName(), taken ? 1 : 0, 0);
                Due.is("parameters of " + m.getName(), m.getParameterCount() <= 7 ? 1 : 0, 1);
            }
        }
    }

    private static void source() throws Exception {
        String code = Files.readString(SOURCE).replaceAll("(?s)/\\*.*?\\*/", "").replaceAll("//.*", "");
        Matcher m = Pattern.compile(
            "\\b(throw|throws|try|catch|synchronized|assert|import (?!java\\.util\\.Arrays;)|package)\\b|->|::|@").matcher(code);
        while (m.find()) Due.is("ruled out: " + m.group(), 1, 0);
        Due.is("read", code.contains("class FlossRumours") ? 1 : 0, 1);
    }
}
