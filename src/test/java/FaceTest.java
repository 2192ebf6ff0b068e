import java.io.IOException;
import java.lang.reflect.Constructor;
import java.lang.reflect.Field;
import java.lang.reflect.Method;
import java.lang.reflect.Modifier;
import java.nio.file.Files;
import java.nio.file.Path;
import java.util.ArrayList;
import java.util.Arrays;
import java.util.Collections;
import java.util.List;
import java.util.Set;
import java.util.TreeSet;
import java.util.regex.Matcher;
import java.util.regex.Pattern;

/** The document's face, and what of LANGUAGE.md can be seen from the class and its source. */
public final class FaceTest {
    private static final String[] FACE = {"int buyer 3", "int thing 2", "int set 3", "int told 2",
        "int feed 1", "int text 0", "int force 1", "int years 2", "int cost 3", "int best 3",
        "int when 2", "int buy 2", "int pass 0", "int all 1", "int heap 1", "int eachOne 0",
        "long gain 2", "int year 0", "int rest 1", "int lies 1", "int judge 2", "int drawn 1",
        "long mean 1", "int image 0", "int back 0", "int count 1", "int sheet 3", "int cell 3",
        "int copy 5", "int things 4", "int taken 2"};

    private static final Set<String> LISTED = Set.of("Math.max", "Math.min", "Integer.bitCount",
        "System.arraycopy");

    private FaceTest() {
    }

    public static void main(String[] args) throws IOException {
        methods();
        fields();
        classes();
        source(Files.readString(Path.of(args[0])));
        Check.end();
    }

    private static void methods() {
        Check.holds("public and final", CostsAge.class.getModifiers()
                == (Modifier.PUBLIC | Modifier.FINAL));
        Constructor<?>[] made = CostsAge.class.getDeclaredConstructors();
        Check.holds("one public constructor of nothing", made.length == 1
                && Modifier.isPublic(made[0].getModifiers()) && made[0].getParameterCount() == 0);
        List<String> seen = new ArrayList<>();
        for (Method m : CostsAge.class.getDeclaredMethods()) {
            if (!Modifier.isPrivate(m.getModifiers())) {
                seen.add(m.getReturnType() + " " + m.getName() + " " + m.getParameterCount());
                Check.holds(m + " is public and takes ints", m.getModifiers() == Modifier.PUBLIC
                        && Arrays.stream(m.getParameterTypes()).allMatch(t -> t == int.class));
            }
        }
        List<String> due = new ArrayList<>(List.of(FACE));
        Collections.sort(seen);
        Collections.sort(due);
        Check.holds("the face: " + seen, seen.equals(due));
    }

    private static void fields() {
        Set<String> open = new TreeSet<>();
        for (Field f : CostsAge.class.getDeclaredFields()) {
            if (!Modifier.isPrivate(f.getModifiers())) {
                open.add(f.getName());
            }
            Check.holds(f + ": static ones are final",
                    !Modifier.isStatic(f.getModifiers()) || Modifier.isFinal(f.getModifiers()));
        }
        Check.holds("open fields: " + open, open.equals(Set.of("NONE", "BAD", "STATE", "FULL",
                "NO")));
    }

    private static void classes() {
        Class<?>[] inside = CostsAge.class.getDeclaredClasses();
        Check.holds("at most twelve classes", inside.length <= 11);
        Set<String> names = new TreeSet<>();
        for (String f : FACE) {
            names.add(f.split(" ")[1]);
        }
        List<Class<?>> all = new ArrayList<>(List.of(inside));
        all.add(CostsAge.class);
        for (Class<?> c : all) {
            long own = Arrays.stream(c.getDeclaredFields())
                    .filter(f -> !Modifier.isStatic(f.getModifiers())).count();
            Check.holds(c + " has some twenty fields at most", own <= 20);
            Check.holds(c + " is static", c == CostsAge.class
                    || Modifier.isStatic(c.getModifiers()));
            for (Method m : c.getDeclaredMethods()) {
                Check.holds(m + " takes seven at most", m.getParameterCount() <= 7);
                Check.holds(m + " bears no public name", !Modifier.isPrivate(m.getModifiers())
                        || !names.contains(m.getName()));
            }
        }
    }

    private static void source(String text) {
        String bare = text.replaceAll("(?s)/\\*.*?\\*/", " ").replaceAll("//[^\n]*", " ")
                .replaceAll("\"[^\"\n]*\"", "\"\"");
        for (String word : new String[] {"throw", "throws", "try", "catch", "finally",
            "synchronized", "assert", "package", "native", "volatile", "var", "Object", "Exception",
            "float", "double", "System\\.(?!arraycopy)", "->", "::", "Exact"}) {
            Matcher m = Pattern.compile(word.matches("[a-zA-Z]+") ? "\\b" + word + "\\b" : word)
                    .matcher(bare);
            Check.holds("no " + word, !m.find());
        }
        onlyListedCalls(bare);
        Check.holds("no texts joined by +", !Pattern.compile("\"\" *\\+|\\+ *\"\"").matcher(bare)
                .find());
        Check.holds("ASCII alone", text.chars().allMatch(c -> c == '\n' || c >= 32 && c < 127));
        methodsAreShort(bare);
    }

    /** Of the library just what the class is known to need, all of which rule 4 lists. */
    private static void onlyListedCalls(String bare) {
        Matcher ofClasses = Pattern.compile("\\b(Math|Integer|Long|System|String|Arrays|List|"
                + "Character)\\.(\\w+)").matcher(bare);
        while (ofClasses.find()) {
            Check.holds(ofClasses.group(), LISTED.contains(ofClasses.group()));
        }
        Matcher made = Pattern.compile("\\bnew (\\w+)").matcher(bare);
        while (made.find()) {
            Check.holds(made.group(), made.group(1).matches("int|Buyer|Ware|Text|Sheet|Reader|Scene"
                    + "|Plan|Fees|Standing"));
        }
        Check.holds("imports nothing",
                !Pattern.compile("\\bimport\\b|\\bjava\\.").matcher(bare).find());
    }

    private static void methodsAreShort(String bare) {
        String[] lines = bare.split("\n", -1);
        int begun = -1;
        String indent = "";
        for (int i = 0; i < lines.length; i++) {
            Matcher m = Pattern.compile("^( {4}| {8})(?:public|private)[^=;]*\\(.*").matcher(lines[i]);
            if (m.matches()) {
                begun = i;
                indent = m.group(1);
            }
            if (begun >= 0 && lines[i].equals(indent + "}")) {
                Check.holds("line " + (begun + 1) + ": a short method", i - begun <= 60);
                begun = -1;
            }
        }
    }
}
