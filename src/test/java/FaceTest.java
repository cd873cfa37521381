import java.io.IOException;
import java.lang.reflect.Member;
import java.lang.reflect.Method;
import java.lang.reflect.Modifier;
import java.nio.file.Files;
import java.nio.file.Path;
import java.util.ArrayList;
import java.util.Arrays;
import java.util.List;
import java.util.TreeSet;
import java.util.regex.Matcher;
import java.util.regex.Pattern;

/** The face is the document's, and the source has none of the words that LANGUAGE.md rules out. */
public final class FaceTest {
    private static final Path SOURCE = Path.of("src/main/java/FoulRights.java");
    private static final String RULED_OUT = "\\b(throw|throws|try|catch|synchronized|assert|protected|package"
        + "|[a-z]\\w*Exact|System\\.(?!arraycopy)|Random|Thread|volatile|native)\\b|->|::";
    private static final String[] FACE = {
        "int works()", "boolean rule(int,int,int)", "int ruled(int,int)", "boolean meter(int,int,int,int)",
        "int fouled(int,int)", "int issue()", "int bid(int,int,int)", "int auction()",
        "boolean trade(int,int,int,int)", "int offset(int,int)", "int falses(int)", "boolean cancel(int,int)",
        "int end()", "int permit(int,int)", "int told(int,int)", "int cut(int,int,int)", "int least(int)",
        "int margin(int)", "int cuts(int,int)", "int count(int)"};
    private static final Checks CHECKS = new Checks();

    public static void main(String[] args) throws IOException {
        face();
        nested();
        words();
        CHECKS.close();
    }

    private static void face() {
        Class<?> c = FoulRights.class;
        CHECKS.due("the class is public and final", c.getModifiers(), Modifier.PUBLIC | Modifier.FINAL);
        TreeSet<String> methods = new TreeSet<>();
        for (Method m : c.getDeclaredMethods()) {
            if (Modifier.isPublic(m.getModifiers())) {
                methods.add(shapeOf(m));
            }
        }
        CHECKS.due("public methods " + methods, methods.equals(new TreeSet<>(Arrays.asList(FACE))), true);
        CHECKS.due("public constructors", c.getConstructors().length, 1);
        CHECKS.due("its parameters", c.getConstructors()[0].getParameterCount(), 0);
        CHECKS.due("public fields", c.getFields().length, 1);
        CHECKS.due("the field is NONE", c.getFields()[0].getName().equals("NONE"), true);
        List<Member> members = new ArrayList<>(Arrays.asList(c.getDeclaredMethods()));
        members.addAll(Arrays.asList(c.getDeclaredFields()));
        for (Member m : members) {
            boolean fits = Modifier.isPublic(m.getModifiers()) || Modifier.isPrivate(m.getModifiers());
            CHECKS.due(m.getName() + " is public or private", fits, true);
        }
    }

    private static String shapeOf(Method m) {
        StringBuilder shape = new StringBuilder(m.getReturnType() + " " + m.getName() + "(");
        for (Class<?> p : m.getParameterTypes()) {
            shape.append(shape.charAt(shape.length() - 1) == '(' ? "" : ",").append(p);
        }
        return shape.append(")").toString();
    }

    private static void nested() {
        Class<?>[] inside = FoulRights.class.getDeclaredClasses();
        CHECKS.due("at most twelve classes", inside.length < 12, true);
        TreeSet<String> names = new TreeSet<>();
        for (String shape : FACE) {
            names.add(shape.replaceAll(".* |\\(.*", ""));
        }
        for (Class<?> c : inside) {
            CHECKS.due(c + " is static", Modifier.isStatic(c.getModifiers()), true);
            CHECKS.due(c + " has at most twenty fields", c.getDeclaredFields().length <= 20, true);
            for (Method m : c.getDeclaredMethods()) {
                CHECKS.due(m + " bears no name of the face", names.contains(m.getName()), false);
                CHECKS.due(m + " has at most seven parameters", m.getParameterCount() <= 7, true);
            }
        }
    }

    private static void words() throws IOException {
        String code = Files.readString(SOURCE).replaceAll("(?s)/\\*.*?\\*/", "").replaceAll("//.*", "");
        Matcher found = Pattern.compile(RULED_OUT).matcher(code);
        boolean isThere = found.find();
        CHECKS.due("a word that is ruled out" + (isThere ? ": " + found.group() : ""), isThere, false);
        Matcher imports = Pattern.compile("import (?!java\\.util\\.(Arrays|ArrayList|List);)").matcher(code);
        CHECKS.due("an import that is ruled out", imports.find(), false);
    }
}
