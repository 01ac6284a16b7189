import java.lang.reflect.Constructor;
import java.lang.reflect.Field;
import java.lang.reflect.Method;
import java.lang.reflect.Modifier;
import java.nio.file.Files;
import java.nio.file.Path;
import java.util.Set;
import java.util.TreeSet;
import java.util.regex.Matcher;
import java.util.regex.Pattern;

/** The face is the document's and no more, and the source keeps to what LANGUAGE.md leaves. */
public final class FaceTest {
    private static final Path SOURCE = Path.of("src/main/java/ShoeTable.java");
    private static final Set<String> FACE = Set.of(
        "int shoe(int,int)", "int fresh()", "int rule(int,int)", "int mark(int,int)", "int left(int)",
        "int take(int,int)", "int draw(int)", "int seed(int)", "int lay()", "int told(int)", "int settle()",
        "int there(int)", "long worth(int,int)", "int best()", "long chance(int,int)", "long deal(int)",
        "long moved(int,int)", "long known(int,int)");
    private static final String[] FORBIDDEN = {
        "\\bthrow\\b", "\\bthrows\\b", "\\btry\\b", "\\bcatch\\b", "\\bsynchronized\\b", "\\bassert\\b", "->", "::",
        "Exact\\b", "\\bstatic\\s*\\{", "\\bprotected\\b", "\\bpackage\\b", "\\bSystem\\.(?!arraycopy\\b)",
        "\\bMath\\.(?!abs\\b|max\\b|min\\b)", "\\bArrays\\.(?!fill\\b)", "\\bnew\\s+(?!Rules\\b|Cards\\b|Hand\\b|Odds\\b"
            + "|Heaps\\b|int\\[|long\\[)", "\\bvar\\b", "\\bRandom\\b", "\\bthis\\b"};
    private static int wrong = 0;

    public static void main(String[] args) throws Exception {
        members();
        constants();
        source();
        System.out.println(wrong == 0 ? "the face is as due" : wrong + " faults of the face");
        if (wrong != 0) {
            System.exit(1);
        }
    }

    private static void fault(String text) {
        wrong++;
        System.out.println(text);
    }

    private static String signature(Method m) {
        StringBuilder s = new StringBuilder(m.getReturnType() + " " + m.getName() + "(");
        for (int i = 0; i < m.getParameterCount(); i++) {
            s.append(i == 0 ? "" : ",").append(m.getParameterTypes()[i]);
        }
        return s.append(")").toString();
    }

    private static void members() {
        if (Modifier.toString(ShoeTable.class.getModifiers()).equals("public final") == false) {
            fault("the class is not just public and final");
        }
        Set<String> names = new TreeSet<>();
        Set<String> seen = new TreeSet<>();
        for (String f : FACE) {
            names.add(f.substring(f.indexOf(' ') + 1, f.indexOf('(')));
        }
        for (Method m : ShoeTable.class.getDeclaredMethods()) {
            if (Modifier.isPublic(m.getModifiers()) && !Modifier.isStatic(m.getModifiers())) {
                seen.add(signature(m));
            } else if (!Modifier.isPrivate(m.getModifiers()) || names.contains(m.getName())) {
                fault("a method that should not be: " + m);
            }
        }
        if (!seen.equals(new TreeSet<>(FACE))) {
            fault("the public methods are " + seen);
        }
        Constructor<?>[] made = ShoeTable.class.getDeclaredConstructors();
        if (made.length != 1 || made[0].getParameterCount() != 0 || !Modifier.isPublic(made[0].getModifiers())) {
            fault("the constructor");
        }
        for (Class<?> c : ShoeTable.class.getDeclaredClasses()) {
            if (!Modifier.isStatic(c.getModifiers()) || Modifier.isPublic(c.getModifiers())) {
                fault("a class inside: " + c);
            }
            for (Method m : c.getDeclaredMethods()) {
                if (names.contains(m.getName())) {
                    fault("a public one's name: " + m);
                }
            }
        }
    }

    private static void constants() throws Exception {
        Set<String> constants = new TreeSet<>();
        for (Field f : ShoeTable.class.getDeclaredFields()) {
            int m = f.getModifiers();
            if (Modifier.isPublic(m) && Modifier.isStatic(m) && Modifier.isFinal(m) && f.getType() == int.class) {
                constants.add(f.getName() + "=" + f.getInt(null));
            } else if (!Modifier.isPrivate(m)) {
                fault("a field that should not be: " + f);
            }
            if (Modifier.isStatic(m) && !Modifier.isFinal(m)) {
                fault("a static field that is not final: " + f);
            }
        }
        Set<String> due = new TreeSet<>(Set.of("NONE=-1", "OUTSIDE=-1001", "STATE=-1002", "FULL=-1003", "LARGE=-1004"));
        if (!constants.equals(due)) {
            fault("the constants are " + constants);
        }
    }

    private static void source() throws Exception {
        String text = Files.readString(SOURCE).replaceAll("(?s)/\\*.*?\\*/", "").replaceAll("//[^\n]*", "");
        for (String f : FORBIDDEN) {
            Matcher m = Pattern.compile(f).matcher(text);
            while (m.find()) {
                fault("the source has " + text.substring(m.start(), Math.min(m.end() + 20, text.length())));
            }
        }
        Matcher imports = Pattern.compile("import\\s+([^;]+);").matcher(text);
        while (imports.find()) {
            if (!imports.group(1).equals("java.util.Arrays")) {
                fault("import " + imports.group(1));
            }
        }
    }
}
