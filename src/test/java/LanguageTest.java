import java.io.IOException;
import java.lang.reflect.Field;
import java.lang.reflect.Method;
import java.lang.reflect.Modifier;
import java.nio.charset.StandardCharsets;
import java.nio.file.Files;
import java.nio.file.Path;
import java.util.ArrayList;
import java.util.Arrays;
import java.util.List;
import java.util.Set;
import java.util.TreeSet;
import java.util.regex.Matcher;
import java.util.regex.Pattern;

/** The rules of LANGUAGE.md that can be seen in the source or in the compiled class. */
public final class LanguageTest {
    private static final Path SOURCE = Path.of("src/main/java/CoatsByLot.java");
    private static final String FACE = "station() walk(int,int,int) line(int,int,int) extend(int,int,int) ofLine(int,int)"
            + " train(int,int,int) ofTrain(int,int) stop(int,int,int) group(int,int,int,int) ofGroup(int,int) as(int,int)"
            + " believe(int,int) price(int,int) feed(long,int) text(int) law(int,int,int,int,int) walked(int) shift(int)"
            + " lots(int,int) ofShift(int,int) odds(int,int) unpaid() long_coin(int) best(int,int) plan(int) days(int)"
            + " find(int,int) average() telling(int,int,int,int) turn(int) gate(int,int) long_wrong(int,int) seen(int,int)"
            + " fair(int) seed(int) voice(int,int,int) trace(int) sheet(int,int,int) put(int,int,int)"
            + " move(int,int,int,int,int) groups(int) image() restore() tell(int) check(int) count(int) told(int)";

    private LanguageTest() {
    }

    public static void main(String[] args) throws IOException {
        String source = Files.readString(SOURCE, StandardCharsets.ISO_8859_1);
        face();
        members();
        words(source);
        lengths(source);
        Due.end();
    }

    private static List<Class<?>> classes() {
        List<Class<?>> all = new ArrayList<>(List.of(CoatsByLot.class));
        all.addAll(Arrays.asList(CoatsByLot.class.getDeclaredClasses()));
        return all;
    }

    private static void face() {
        Set<String> due = new TreeSet<>(Arrays.asList(FACE.split(" ")));
        Set<String> got = new TreeSet<>();
        for (Method m : CoatsByLot.class.getDeclaredMethods()) {
            if (Modifier.isPublic(m.getModifiers())) {
                String types = Arrays.stream(m.getParameterTypes()).map(Class::getName)
                        .reduce((a, b) -> a + "," + b).orElse("");
                got.add((m.getReturnType() == long.class ? "long_" : "") + m.getName() + "(" + types + ")");
            } else {
                yes("rule 1: private: " + m, Modifier.isPrivate(m.getModifiers()));
            }
        }
        yes("the face is " + got + ", due is " + due, got.equals(due));
        yes("rule 1: public and final", Modifier.isPublic(CoatsByLot.class.getModifiers())
                && Modifier.isFinal(CoatsByLot.class.getModifiers()));
        for (Field f : CoatsByLot.class.getDeclaredFields()) {
            yes("rule 1: private: " + f, Modifier.isPrivate(f.getModifiers()));
        }
    }

    private static void members() {
        Set<String> open = new TreeSet<>();
        for (Method m : CoatsByLot.class.getMethods()) {
            open.add(m.getName());
        }
        yes("rule 11: at most twelve classes", classes().size() <= 12);
        for (Class<?> c : classes()) {
            boolean inside = c != CoatsByLot.class;
            yes("rules 1, 2: static, and not public: " + c, !inside
                    || Modifier.isStatic(c.getModifiers()) && !Modifier.isPublic(c.getModifiers()));
            for (Method m : c.getDeclaredMethods()) {
                yes("rule 11: at most seven parameters: " + m, m.getParameterCount() <= 7);
                yes("rule 1: no other method bears a public name: " + m,
                        Modifier.isPublic(m.getModifiers()) || !open.contains(m.getName()));
            }
            int fields = 0;
            for (Field f : c.getDeclaredFields()) {
                fields += Modifier.isStatic(f.getModifiers()) ? 0 : 1;
                yes("rule 5: final: " + f, !Modifier.isStatic(f.getModifiers()) || Modifier.isFinal(f.getModifiers()));
                yes("rule 5: " + f, !Modifier.isStatic(f.getModifiers())
                        || Set.of("int", "long", "boolean", "char", "java.lang.String", "[I", "[J", "[C", "[B")
                                .contains(f.getType().getName()));
            }
            yes("rule 11: at most twenty fields: " + c, fields <= 20);
        }
    }

    private static void words(String source) {
        for (int i = 0; i < source.length(); i++) {
            if (source.charAt(i) > 126 || source.charAt(i) < 10) {
                yes("rule 4: sign " + (int) source.charAt(i) + " at " + i, false);
            }
        }
        String code = source.replaceAll("(?s)/\\*.*?\\*/", " ").replaceAll("//[^\n]*", " ")
                .replaceAll("\"[^\"\n]*\"", "\"\"").replaceAll("'[^\n]'", "0");
        String never = "\\b(throw|throws|try|catch|finally|synchronized|assert|hashCode|toString|native|volatile|transient"
                + "|double|float|Object|Thread|Random|Exception|extends|implements|new String|protected|package)\\b"
                + "|->|::|\\w+Exact\\b";
        Matcher m = Pattern.compile(never).matcher(code);
        while (m.find()) {
            yes("a word that is never used: " + m.group(), false);
        }
        m = Pattern.compile("\\bimport\\s+([\\w.]+)").matcher(code);
        while (m.find()) {
            yes("rule 4: import " + m.group(1), m.group(1).equals("java.util.Arrays"));
        }
        m = Pattern.compile("\\b(Arrays|Math|System|Integer|Long)\\.(\\w+)").matcher(code);
        while (m.find()) {
            yes("rule 4: " + m.group(), Set.of("fill", "arraycopy", "min", "max").contains(m.group(2)));
        }
        // rule 12: all rows are made with the object
        m = Pattern.compile("\n( *)([^\n]*\\bnew\\b[^\n]*)").matcher(code);
        while (m.find()) {
            yes("rule 12: made in a field alone: " + m.group(2), m.group(2).matches("(private )?final .*"));
        }
    }

    private static void lengths(String source) {
        String[] lines = source.split("\n");
        int begin = -1;
        String end = "";
        for (int i = 0; i < lines.length; i++) {
            if (begin < 0 && lines[i].matches("( {4}| {8})\\S[^=]*\\) \\{")) {
                begin = i;
                end = lines[i].replaceAll("\\S.*", "") + "}";
            } else if (begin >= 0 && lines[i].equals(end)) {
                yes("rule 11: at most sixty lines: " + lines[begin], i - begin < 60);
                begin = -1;
            }
            yes("a line of at most 120 signs: " + lines[i], lines[i].length() <= 120);
        }
    }

    private static void yes(String what, boolean holds) {
        Due.due(what, holds ? 1 : 0, 1);
    }
}
