import java.io.IOException;
import java.lang.reflect.Constructor;
import java.lang.reflect.Field;
import java.lang.reflect.Method;
import java.lang.reflect.Modifier;
import java.nio.file.Files;
import java.nio.file.Path;
import java.util.ArrayList;
import java.util.List;
import java.util.Set;
import java.util.TreeMap;
import java.util.TreeSet;
import java.util.regex.Matcher;
import java.util.regex.Pattern;

/** The face of the class, and what of LANGUAGE.md can be told from the words of the program. */
public final class Rules {
    private static final String SOURCE = "src/main/java/StorkVote.java";

    private static final String FACE = "chimney 4, told 2, as 2, turns 2, set 3, stork 2, storkTold 2, away 2, likes 2, "
        + "rule 2, deal 1, seed 1, ward 2, elected 0, years 1, frogs 2, driven 1, brings 1, behind 2, rather 1, fine 0, "
        + "feed 3, trim 1, text 0, textTold 2, why 1, sheet 3, mark 3, pour 1, reads 1, copy 5, lay 3, ask 2, item 2, "
        + "rest 2, tell 1, check 1, keep 0, back 0, count 1";

    private static final String[] CONSTANTS = {"BAD", "NO", "FULL", "NONE", "NOTHING", "KIND", "INDEX", "SIZE"};

    private static final String[] FORBIDDEN = {"\\bthrow\\b", "\\btry\\b", "\\bcatch\\b", "\\bsynchronized\\b",
        "\\bassert\\b", "\\bprotected\\b", "\\bpackage\\b", "->", "::", "\\bhashCode\\b", "\\btoString\\b", "Exact\\b",
        "\\bSystem\\.(?!arraycopy\\b)", "\\bArrays\\.(?!(fill|copyOf|copyOfRange)\\b)", "\\bstatic\\s*\\{", "\\)\\s*\\{\\s*\\{",
        "\\bimport\\s+(?!java\\.util\\.(Arrays|ArrayList|List|Iterator);)", "\\bThread\\b", "\\bRandom\\b", "\\bfloat\\b",
        "\\bdouble\\b", "@", "\\bvar\\b", "\\byield\\b"};

    private static int wrong;

    private static void due(boolean holds, String rule) {
        if (!holds) {
            wrong++;
            System.out.println("does not hold: " + rule);
        }
    }

    public static void main(String[] args) throws IOException {
        String source = Files.readString(Path.of(SOURCE));
        String bare = bare(source);
        for (String word : FORBIDDEN) {
            due(!Pattern.compile(word).matcher(bare).find(), "no " + word);
        }
        due(source.chars().allMatch(c -> c < 128), "signs 1 to 127 alone");
        face();
        List<Class<?>> all = new ArrayList<>(List.of(StorkVote.class.getDeclaredClasses()));
        all.add(StorkVote.class);
        due(all.size() <= 12, "at most twelve classes");
        all.forEach(Rules::shape);
        methods(bare);
        System.out.println(wrong == 0 ? "Rules: all hold" : "Rules: " + wrong + " do not hold");
        if (wrong != 0) {
            System.exit(1);
        }
    }

    /** The program without its comments, and with all that stands in texts and signs left out. */
    private static String bare(String source) {
        return source.replaceAll("(?s)/\\*.*?\\*/", "").replaceAll("\"[^\"\\n]*\"", "\"\"").replaceAll("'[^'\\n]+'", "' '")
            .replaceAll("//[^\\n]*", "");
    }

    private static void face() {
        Class<?> c = StorkVote.class;
        due(Modifier.isPublic(c.getModifiers()) && Modifier.isFinal(c.getModifiers()), "public and final");
        Constructor<?>[] made = c.getDeclaredConstructors();
        due(made.length == 1 && made[0].getParameterCount() == 0 && Modifier.isPublic(made[0].getModifiers()), "one constructor");
        TreeMap<String, Integer> want = new TreeMap<>();
        for (String m : FACE.split(", ")) {
            want.put(m.split(" ")[0], Integer.parseInt(m.split(" ")[1]));
        }
        TreeMap<String, Integer> got = new TreeMap<>();
        for (Method m : c.getDeclaredMethods()) {
            if (!Modifier.isPrivate(m.getModifiers())) {
                due(m.getModifiers() == Modifier.PUBLIC && m.getReturnType() == int.class, m.getName() + " is of the face");
                for (Class<?> p : m.getParameterTypes()) {
                    due(p == int.class, m.getName() + " takes ints");
                }
                got.put(m.getName(), m.getParameterCount());
            }
        }
        due(got.equals(want), "the methods of the document: " + got);
        TreeSet<String> constants = new TreeSet<>();
        for (Field f : c.getDeclaredFields()) {
            if (!Modifier.isPrivate(f.getModifiers())) {
                due(f.getModifiers() == (Modifier.PUBLIC | Modifier.STATIC | Modifier.FINAL), f.getName() + " is a constant");
                constants.add(f.getName());
            }
        }
        due(constants.equals(new TreeSet<>(List.of(CONSTANTS))), "the constants of the document: " + constants);
    }

    private static void shape(Class<?> c) {
        if (c != StorkVote.class) {
            due(Modifier.isStatic(c.getModifiers()), c + " is static");
            due(!Modifier.isPublic(c.getModifiers()) && !Modifier.isProtected(c.getModifiers()), c + " is hidden");
            due(c.getDeclaredClasses().length == 0, c + " holds no class");
        }
        Set<String> face = new TreeSet<>();
        for (String m : FACE.split(", ")) {
            face.add(m.split(" ")[0]);
        }
        for (Method m : c.getDeclaredMethods()) {
            due(m.getParameterCount() <= 7, m.getName() + " takes at most seven");
            boolean own = c != StorkVote.class || Modifier.isPrivate(m.getModifiers());
            due(!own || !face.contains(m.getName()), m.getName() + " bears a name of its own");
        }
        int fields = 0;
        for (Field f : c.getDeclaredFields()) {
            if (Modifier.isStatic(f.getModifiers())) {
                boolean plain = f.getType().isPrimitive() || f.getType() == String.class || f.getType() == int[].class;
                due(Modifier.isFinal(f.getModifiers()) && plain, f.getName() + " is a constant");
            } else {
                fields++;
            }
        }
        due(fields <= 20, c + " has at most twenty fields");
    }

    private static void methods(String bare) {
        String[] lines = bare.split("\n");
        Pattern head = Pattern.compile("^( {4}| {8})[A-Za-z][^=;]*\\)\\s*\\{$");
        int found = 0;
        for (int i = 0; i < lines.length; i++) {
            Matcher m = head.matcher(lines[i]);
            if (m.find() && !lines[i].matches("\\s*(if|for|while|switch|else|do)\\b.*")) {
                int end = i;
                while (end < lines.length && !lines[end].equals(m.group(1) + "}")) {
                    end++;
                }
                found++;
                due(end - i <= 60, "short: " + lines[i].trim());
            }
        }
        due(found > 60, "methods were found: " + found);
    }
}
