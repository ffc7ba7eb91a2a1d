import java.lang.reflect.Constructor;
import java.lang.reflect.Field;
import java.lang.reflect.Method;
import java.lang.reflect.Modifier;
import java.nio.file.Files;
import java.nio.file.Path;
import java.util.Set;
import java.util.TreeSet;
import java.util.regex.Matcher;
import java.util.regex.Pattern;

/** The document's face, and those rules of LANGUAGE.md that can be looked up. */
final class FaceTest {
    private static final Set<String> FACE = new TreeSet<>(Set.of(
        "int half(int)", "int put(int,int)", "long whole(int)", "long told(int)", "int set(int,long)",
        "int turn(int,boolean)", "int run(int)", "int step()", "long acts()", "long item(int,int)",
        "int lay(int,long)", "int stands(int)", "int blank(int)", "long drum(int)", "int feed(long,int)",
        "int load()", "int written(int,int)", "long digest()"));

    public static void main(String[] args) throws Exception {
        Class<?> face = TapeCalculator.class;
        Check.isTrue("the class is public and final",
            Modifier.isPublic(face.getModifiers()) && Modifier.isFinal(face.getModifiers()));
        methods(face);
        fields(face);
        for (Constructor<?> c : face.getDeclaredConstructors()) {
            Check.isTrue("one public constructor", Modifier.isPublic(c.getModifiers()) && c.getParameterCount() == 0);
        }
        for (Class<?> inside : face.getDeclaredClasses()) {
            Check.isTrue(inside + " is static and not public",
                Modifier.isStatic(inside.getModifiers()) && !Modifier.isPublic(inside.getModifiers()));
            methodsInside(inside);
        }
        words();
        Check.end();
    }

    private static void methods(Class<?> face) {
        Set<String> found = new TreeSet<>();
        for (Method m : face.getDeclaredMethods()) {
            if (Modifier.isPublic(m.getModifiers())) {
                found.add(signature(m));
            } else {
                Check.isTrue(m + " is private", Modifier.isPrivate(m.getModifiers()));
                Check.isTrue(m + " has a name of its own", !isNameOfFace(m.getName()));
            }
        }
        Check.isTrue("the methods are " + found, found.equals(FACE));
    }

    private static void methodsInside(Class<?> inside) {
        for (Method m : inside.getDeclaredMethods()) {
            Check.isTrue(m + " has a name of its own", !isNameOfFace(m.getName()));
            Check.isTrue(m + " has seven parameters at most", m.getParameterCount() <= 7);
        }
    }

    private static boolean isNameOfFace(String name) {
        return FACE.stream().anyMatch(s -> s.contains(" " + name + "("));
    }

    private static String signature(Method m) {
        StringBuilder s = new StringBuilder(m.getReturnType() + " " + m.getName() + "(");
        for (Class<?> p : m.getParameterTypes()) {
            s.append(s.charAt(s.length() - 1) == '(' ? "" : ",").append(p);
        }
        return s.append(")").toString();
    }

    private static void fields(Class<?> face) {
        Set<String> found = new TreeSet<>();
        for (Field f : face.getDeclaredFields()) {
            Check.isTrue(f + " is final if static", !Modifier.isStatic(f.getModifiers()) || Modifier.isFinal(f.getModifiers()));
            if (!Modifier.isPrivate(f.getModifiers())) {
                found.add(f.getName());
            }
        }
        Check.isTrue("the constants are " + found, found.equals(Set.of("BAD", "FULL", "STATE", "NONE")));
        Check.due("BAD", TapeCalculator.BAD, -1);
        Check.due("FULL", TapeCalculator.FULL, -2);
        Check.due("STATE", TapeCalculator.STATE, -4);
        Check.due("NONE", TapeCalculator.NONE, -9);
    }

    private static void words() throws Exception {
        String source = Files.readString(Path.of(System.getProperty("main.source", "src/main/java/TapeCalculator.java")));
        String code = source.replaceAll("(?s)/\\*.*?\\*/", "").replaceAll("//[^\n]*", "");
        Matcher m = Pattern.compile("\\b(throw|throws|try|catch|synchronized|assert|import|package|System|Object)\\b|->|::")
            .matcher(code);
        while (m.find()) {
            Check.isTrue("the class does without '" + m.group() + "'", false);
        }
    }
}
