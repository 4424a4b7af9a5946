import java.io.IOException;
import java.lang.reflect.Field;
import java.lang.reflect.Modifier;
import java.nio.file.Files;
import java.nio.file.Path;
import java.util.List;
import java.util.regex.Matcher;
import java.util.regex.Pattern;

/** The rules of LANGUAGE.md that can be seen without understanding the program; run from the project's root. */
public final class LanguageTest {
    private static final Due d = new Due();

    public static void main(String[] args) throws IOException {
        String source = Files.readString(Path.of("src/main/java/AcidCity.java"));
        for (int i = 0; i < source.length(); i++) {
            char c = source.charAt(i);
            if (c != '\n' && (c < 32 || c > 126)) {
                d.eq("a sign at " + i, c, ' ');
            }
        }
        String bare = source.replaceAll("(?s)/\\*.*?\\*/", "").replaceAll("//[^\n]*", "")
                .replaceAll("\"[^\"]*\"", "\"\"").replaceAll("'[^']'", "'x'");
        words(bare);
        imports(bare);
        methods(bare);
        classes();
        d.end();
    }

    private static void words(String bare) {
        for (String word : List.of("throw", "throws", "try", "catch", "finally", "synchronized", "assert", "package",
                "Object", "System.out", "System.exit", "Random", "Thread", "hashCode", "volatile", "native", "var",
                "strictfp", "transient", "protected")) {
            d.eq("'" + word + "' in it", Pattern.compile("\\b" + Pattern.quote(word) + "\\b").matcher(bare).find() ? 1 : 0, 0);
        }
        for (String sign : List.of("->", "::", "Exact(", "static {", "@")) {
            d.eq("'" + sign + "' in it", bare.contains(sign) ? 1 : 0, 0);
        }
        d.eq("texts joined by +", Pattern.compile("\"\"\\s*\\+|\\+\\s*\"\"").matcher(bare).find() ? 1 : 0, 0);
        d.eq("arrays of three dimensions", bare.contains("[][][]") ? 1 : 0, 0);
    }

    private static void imports(String bare) {
        Matcher m = Pattern.compile("import ([^;]+);").matcher(bare);
        List<String> allowed = List.of("java.util.Arrays", "java.util.ArrayList", "java.util.List", "java.util.Iterator");
        while (m.find()) {
            d.eq("import of " + m.group(1), allowed.contains(m.group(1)) ? 1 : 0, 1);
        }
        m = Pattern.compile("\\b(System|Arrays|Math|Integer|Long)\\.(\\w+)").matcher(bare);
        List<String> used = List.of("System.arraycopy", "Arrays.fill", "Arrays.copyOf", "Arrays.copyOfRange", "Math.min",
                "Math.max", "Math.abs", "Math.floorMod", "Math.floorDiv", "Integer.bitCount", "Integer.compare");
        while (m.find()) {
            d.eq("use of " + m.group(), used.contains(m.group()) ? 1 : 0, 1);
        }
    }

    private static void methods(String bare) {
        Matcher m = Pattern.compile("\n( {4}| {8})((?:public |private |static |final )*)(?!return|else|new )([\\w\\[\\]]+ )?(\\w+)\\(([^)]*)\\) \\{\n").matcher(bare);
        int seen = 0;
        int at = 0;
        while (m.find(at)) {
            seen++;
            at = m.end() - 1;
            String name = m.group(4);
            int end = bare.indexOf("\n" + m.group(1) + "}", m.end() - 1);
            long lines = bare.substring(m.end(), Math.max(end, m.end())).lines().count();
            d.eq(name + " has " + lines + " lines", lines <= 60 ? 1 : 0, 1);
            int parameters = m.group(5).isBlank() ? 0 : m.group(5).split(",").length;
            d.eq(name + " has " + parameters + " parameters", parameters <= 7 ? 1 : 0, 1);
        }
        d.eq("methods were seen", seen > 150 ? 1 : 0, 1);
    }

    private static void classes() {
        Class<?>[] inside = AcidCity.class.getDeclaredClasses();
        d.eq("classes: " + (1 + inside.length), inside.length <= 11 ? 1 : 0, 1);
        fields(AcidCity.class);
        for (Class<?> c : inside) {
            fields(c);
            d.eq(c + " is final", Modifier.isFinal(c.getModifiers()) ? 1 : 0, 1);
        }
    }

    private static void fields(Class<?> c) {
        int own = 0;
        for (Field f : c.getDeclaredFields()) {
            if (Modifier.isStatic(f.getModifiers())) {
                d.eq(f + " is final", Modifier.isFinal(f.getModifiers()) ? 1 : 0, 1);
            } else {
                own++;
            }
        }
        d.eq(c + " has " + own + " fields", own <= 20 ? 1 : 0, 1);
    }
}
