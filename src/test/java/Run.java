import java.lang.reflect.InvocationTargetException;
import java.lang.reflect.Method;
import java.util.ArrayList;
import java.util.HashMap;
import java.util.List;
import java.util.Map;
import java.util.regex.Matcher;
import java.util.regex.Pattern;

/**
 * A run of calls on a new object, written as one text: <code>cell(10)=0; 3*cell(5); lock(0, 0, 1)=BAD</code>. What
 * stands behind = is due (without it any answer is fine); 3* makes a call three times. tape("..") puts signs on THE
 * TAPE, text("..") makes a TEXT of them, law("..") has it passed and begins the next HOUR.
 */
final class Run {
    private static final Pattern CALL = Pattern.compile("(?:(\\d+)\\*)?(\\w+)\\((.*)\\)(?:\\s*=\\s*([-\\w]+))?");
    private static final int MOST_CALLS = 512;
    private static final Map<String, Method> FACE = new HashMap<>();

    static {
        for (Method m : AcidCity.class.getDeclaredMethods()) {
            if (java.lang.reflect.Modifier.isPublic(m.getModifiers())) {
                FACE.put(m.getName(), m);
            }
        }
    }

    private final Due due;
    private final String sentence;
    private final AcidCity city = new AcidCity();
    private int calls;

    private Run(Due due, String sentence) {
        this.due = due;
        this.sentence = sentence;
    }

    /** The sentence of the document holds, if every call of the run answers what is due. */
    static void holds(Due due, String sentence, String... runs) {
        for (String run : runs) {
            new Run(due, sentence).go(run);
        }
    }

    private void go(String run) {
        for (String call : parts(run)) {
            Matcher m = CALL.matcher(call);
            if (!m.matches()) {
                throw new IllegalArgumentException(sentence + ": no call: '" + call + "'");
            }
            int times = m.group(1) == null ? 1 : Integer.parseInt(m.group(1));
            for (int i = 0; i < times; i++) {
                int got = answer(m.group(2), m.group(3).trim());
                if (m.group(4) != null) {
                    due.eq(sentence + ": " + call + " in '" + run + "'", got, number(m.group(4)));
                }
            }
        }
        due.eq(sentence + ": '" + run + "' has " + calls + " calls", calls <= MOST_CALLS ? 1 : 0, 1);
    }

    private static List<String> parts(String run) {
        List<String> found = new ArrayList<>();
        StringBuilder part = new StringBuilder();
        boolean quoted = false;
        for (char c : run.toCharArray()) {
            quoted ^= c == '"';
            if (c == ';' && !quoted) {
                add(found, part);
            } else {
                part.append(c);
            }
        }
        add(found, part);
        return found;
    }

    private static void add(List<String> found, StringBuilder part) {
        if (!part.toString().isBlank()) {
            found.add(part.toString().trim());
        }
        part.setLength(0);
    }

    private int answer(String name, String args) {
        if (args.startsWith("\"")) {
            calls += 3 + args.length() / 12 + (name.equals("law") ? 6 + 2 * city.count(4) : 0);
            return said(city, name, args.substring(1, args.length() - 1));
        }
        calls++;
        return asked(city, name, args);
    }

    /** What an object answers to calls that are written as a run; of several the last. */
    static int on(AcidCity x, String run) {
        int got = 0;
        for (String call : parts(run)) {
            Matcher m = CALL.matcher(call);
            if (!m.matches()) {
                throw new IllegalArgumentException("no call: '" + call + "'");
            }
            String args = m.group(3).trim();
            boolean signs = args.startsWith("\"");
            got = signs ? said(x, m.group(2), args.substring(1, args.length() - 1)) : asked(x, m.group(2), args);
        }
        return got;
    }

    private static int asked(AcidCity x, String name, String args) {
        Method m = FACE.get(name);
        if (m == null) {
            throw new IllegalArgumentException("no method " + name);
        }
        String[] each = args.isEmpty() ? new String[0] : args.split(",");
        Object[] numbers = new Object[each.length];
        for (int i = 0; i < each.length; i++) {
            numbers[i] = number(each[i].trim());
        }
        try {
            return (int) m.invoke(x, numbers);
        } catch (InvocationTargetException | IllegalAccessException e) {
            throw new IllegalStateException(name + "(" + args + ") threw", e);
        }
    }

    private static int said(AcidCity x, String name, String signs) {
        switch (name) {
            case "tape":
                Say.tape(x, signs);
                return 0;
            case "text":
                return Say.text(x, signs);
            case "law":
                return Say.law(x, signs);
            default:
                throw new IllegalArgumentException(name + " takes no signs");
        }
    }

    static int number(String s) {
        switch (s) {
            case "BAD":
                return AcidCity.BAD;
            case "NO":
                return AcidCity.NO;
            case "FULL":
                return AcidCity.FULL;
            case "SPENT":
                return AcidCity.SPENT;
            case "NONE":
                return AcidCity.NONE;
            case "NOTHING":
                return AcidCity.NOTHING;
            case "KIND":
                return AcidCity.KIND;
            case "INDEX":
                return AcidCity.INDEX;
            case "SIZE":
                return AcidCity.SIZE;
            case "MOST":
                return Integer.MAX_VALUE;
            case "LEAST":
                return Integer.MIN_VALUE;
            default:
                return Integer.parseInt(s);
        }
    }
}
