import java.lang.reflect.Constructor;
import java.lang.reflect.Field;
import java.lang.reflect.Method;
import java.lang.reflect.Modifier;
import java.nio.file.Files;
import java.nio.file.Path;
import java.util.Set;
import java.util.TreeSet;
import java.util.regex.Matcher;
import java.util.regex.Pattern;

// The class has the document's face and no more, and its text keeps to the rules that a text can be searched for.
public final class FaceTest {
    private static final Path SOURCE = Path.of("src/main/java/RestBounds.java");
    private static final String[] FACE = {
        "int arrow(int, int, int)", "int back(int)", "int begin(int)", "int best(int, int)",
        "long end(int, int)", "long found(int)", "int given(int, int, int)", "int grow(int)",
        "int item(int, int)", "int joined(boolean)", "int law(int, int)", "int order(int)",
        "long rests(int)", "int save(int)", "int state(int)", "int told(int)", "long units(int)",
        "int until(int, int, int)",
    };
    private static int wrong = 0;

    private static void must(boolean holds, String what) {
        if (!holds) {
            wrong++;
            System.out.println("not so: " + what);
        }
    }

    public static void main(String[] args) throws Exception {
        Class<?> face = RestBounds.class;
        must(Modifier.isFinal(face.getModifiers()) && Modifier.isPublic(face.getModifiers()), "public and final");
        methods(face);
        fields(face);
        Constructor<?>[] makers = face.getDeclaredConstructors();
        must(makers.length == 1 && makers[0].getParameterCount() == 0
            && Modifier.isPublic(makers[0].getModifiers()), "one public constructor");
        Set<String> names = new TreeSet<>();
        for (String each : FACE) {
            names.add(each.replaceAll(".* (\\w+)\\(.*", "$1"));
        }
        for (Class<?> inner : face.getDeclaredClasses()) {
            must(Modifier.isStatic(inner.getModifiers()), inner + " is static");
            for (Method m : inner.getDeclaredMethods()) {
                must(!names.contains(m.getName()), m + " has a name of its own");
            }
        }
        text();
        System.out.println(wrong == 0 ? "the face is as told" : wrong + " things are not as told");
        if (wrong != 0) {
            System.exit(1);
        }
    }

    private static void methods(Class<?> face) {
        Set<String> seen = new TreeSet<>();
        Set<String> seenPublic = new TreeSet<>();
        for (Method m : face.getDeclaredMethods()) {
            StringBuilder told = new StringBuilder(m.getReturnType() + " " + m.getName() + "(");
            for (int i = 0; i < m.getParameterCount(); i++) {
                told.append(i == 0 ? "" : ", ").append(m.getParameterTypes()[i]);
            }
            told.append(')');
            must(m.getParameterCount() <= 7, m + " has at most seven parameters");
            if (Modifier.isPrivate(m.getModifiers())) {
                seen.add(m.getName());
            } else {
                must(Modifier.isPublic(m.getModifiers()), m + " is public or private");
                seenPublic.add(told.toString());
            }
        }
        must(seenPublic.equals(Set.of(FACE)), "the public methods are those of the document: " + seenPublic);
        for (String each : FACE) {
            String name = each.replaceAll(".* (\\w+)\\(.*", "$1");
            must(!seen.contains(name), "no private method is named " + name);
        }
    }

    private static void fields(Class<?> face) {
        Set<String> seen = new TreeSet<>();
        for (Field f : face.getDeclaredFields()) {
            int how = f.getModifiers();
            must(!Modifier.isStatic(how) || Modifier.isFinal(how), f + " is final if it is static");
            if (!Modifier.isPrivate(how)) {
                seen.add(f.getName());
                must(Modifier.isPublic(how) && Modifier.isStatic(how) && f.getType() == int.class, f + " is a constant");
            }
        }
        must(seen.equals(Set.of("BAD", "NO", "FULL", "NONE")), "the constants are those of the document: " + seen);
        must(RestBounds.BAD == -1 && RestBounds.NO == -2 && RestBounds.FULL == -3 && RestBounds.NONE == -1,
            "the constants have their numbers");
    }

    private static void text() throws Exception {
        String source = Files.readString(SOURCE);
        String code = source.replaceAll("(?s)/\\*.*?\\*/", "").replaceAll("//[^\n]*", "");
        String[] words = {"throw", "throws", "try", "catch", "finally", "synchronized", "assert", "package",
            "protected", "Exact", "System\\.(?!arraycopy)\\w+", "Math\\.\\w+Exact", "->", "::", "random", "Thread"};
        for (String word : words) {
            Matcher m = Pattern.compile(word.matches("\\w+") ? "\\b" + word + "\\b" : word).matcher(code);
            must(!m.find(), "the class does without " + word);
        }
        Matcher imports = Pattern.compile("import ([^;]+);").matcher(code);
        while (imports.find()) {
            must(imports.group(1).equals("java.util.Arrays"), "the class does without " + imports.group(1));
        }
        // what is made is made in constructors, so that a long run takes no more room than a short one
        for (String line : code.split("\n")) {
            if (line.contains("new ")) {
                must(line.matches(".*\\bfinal\\b.*= new .*|        (    )?\\w+(\\[k\\])? = new .*;"),
                    "made in a constructor: " + line.trim());
            }
        }
    }
}
