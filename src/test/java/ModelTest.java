import java.lang.reflect.InvocationTargetException;
import java.lang.reflect.Method;
import java.util.ArrayList;
import java.util.Arrays;
import java.util.HashMap;
import java.util.List;
import java.util.Map;
import java.util.Random;

/**
 * Long runs of calls drawn from a fixed row of seeds, on the class and on the model alike: every answer must be the
 * same, no call may throw, and at the end of a run all that can be asked must be the same.
 */
public final class ModelTest {
    private static final int RUNS = 1500, CALLS = 400;
    private static final Map<String, Method> REAL = new HashMap<>();
    private static final Map<String, Method> MODEL = new HashMap<>();
    private static final List<String> NAMES = new ArrayList<>();

    private final Random random;
    private final AcidCity real = new AcidCity();
    private final Model model = new Model();
    private final List<String> log = new ArrayList<>();
    private int lastAnswer;

    private ModelTest(long seed) {
        random = new Random(seed);
    }

    public static void main(String[] args) throws Exception {
        for (Method m : AcidCity.class.getDeclaredMethods()) {
            if (java.lang.reflect.Modifier.isPublic(m.getModifiers())) {
                REAL.put(m.getName(), m);
                MODEL.put(m.getName(), Model.class.getMethod(m.getName(), m.getParameterTypes()));
                NAMES.add(m.getName());
            }
        }
        NAMES.sort(null);
        long first = args.length > 0 ? Long.parseLong(args[0]) : 1;
        int runs = args.length > 1 ? Integer.parseInt(args[1]) : RUNS;
        long calls = 0;
        for (long seed = first; seed < first + runs; seed++) {
            ModelTest t = new ModelTest(seed);
            if (!t.go()) {
                System.out.println("seed " + seed + ": " + String.join("; ", t.log));
                System.exit(1);
            }
            calls += t.log.size();
        }
        System.out.println(runs + " runs, " + calls + " calls, all answers alike");
    }

    private static final class Differ extends RuntimeException {
        private static final long serialVersionUID = 1;
    }

    private boolean go() throws Exception {
        try {
            begin();
            while (log.size() < CALLS) {
                step();
            }
            lookAround();
            return true;
        } catch (Differ e) {
            return false;
        }
    }

    private int both(String name, int... args) {
        Object[] boxed = Arrays.stream(args).boxed().toArray();
        String call = name + Arrays.toString(args);
        int got;
        int want;
        try {
            want = (int) MODEL.get(name).invoke(model, boxed);
            got = (int) REAL.get(name).invoke(real, boxed);
        } catch (InvocationTargetException | IllegalAccessException e) {
            log.add(call + " threw " + e.getCause());
            throw new Differ();
        }
        log.add(call + "=" + got);
        lastAnswer = got;
        if (got != want) {
            log.add("due is " + want);
            throw new Differ();
        }
        return got;
    }

    private int upTo(int most) {
        return random.nextInt(most + 1);
    }

    private int between(int low, int high) {
        return low + random.nextInt(high - low + 1);
    }

    private boolean chance(int percent) {
        return random.nextInt(100) < percent;
    }

    /** Mostly within, now and then at an edge or beyond it. */
    private int near(int low, int high) {
        int dice = random.nextInt(100);
        if (dice < 80) {
            return between(low, Math.max(low, high));
        }
        if (dice < 86) {
            return low;
        }
        if (dice < 92) {
            return high;
        }
        int[] odd = {low - 1, high + 1, -1, 0, Integer.MIN_VALUE, Integer.MAX_VALUE, AcidCity.NONE, 1000000};
        return odd[random.nextInt(odd.length)];
    }

    private int some(int what) {
        return near(0, Math.max(0, model.count(what) - 1));
    }

    private static int lastHour(int n, int most) {
        return Math.max(1, Math.min(n, most)) - 1;
    }

    private int grams() {
        return chance(60) ? near(0, 3000) : chance(50) ? near(990000, 999999) : near(0, 999999);
    }

    private void begin() {
        int cells = upTo(chance(10) ? 21 : 6);
        for (int i = 0; i < cells; i++) {
            both("cell", chance(50) ? between(1, 60) : between(1, 999));
            both("air", i, 0, chance(50) ? between(0, 999999) : between(0, 4000));
        }
        int people = upTo(chance(10) ? 26 : 8);
        for (int i = 0; i < people && cells > 0; i++) {
            both("person", upTo(99), upTo(3), upTo(cells - 1));
        }
    }

    private void step() {
        switch (random.nextInt(26)) {
            case 0, 1 -> makeWork();
            case 2 -> both("air", some(0), near(0, 5), chance(30) ? near(0, 99) : grams());
            case 3 -> both("lock", some(0), some(0), near(1, 9));
            case 4 -> both("turn", some(1), some(4), near(0, 1));
            case 5 -> both("store", near(0, 5), grams());
            case 6 -> both("give", near(0, 5), some(0), grams());
            case 7 -> tend();
            case 8 -> weathers();
            case 9, 10, 11 -> both("run", chance(60) ? near(1, 12) : near(1, 120));
            case 12 -> both("be", some(4), near(0, 3), chance(50) ? near(0, 3) : near(0, 100));
            case 13, 14 -> charter();
            case 15 -> vote();
            case 16 -> gauges();
            case 17 -> doubts();
            case 18 -> rounds();
            case 19 -> night();
            case 20 -> yard();
            case 21 -> rows();
            case 22 -> images();
            case 23 -> sheds();
            default -> any();
        }
    }

    private void makeWork() {
        int kind = near(0, 6);
        int a = switch (kind) {
            case 1 -> near(1, 9);
            case 2, 3, 4 -> near(1, 99);
            case 5 -> some(2);
            case 6 -> chance(50) ? near(1, 2000) : near(1, 99999);
            default -> chance(90) ? 0 : 1;
        };
        int b = kind == 1 ? near(0, chance(50) ? 500 : 99999) : kind == 5 ? near(1, 200) : chance(95) ? 0 : 1;
        both("work", kind, some(0), chance(50) ? near(1, 50) : near(1, 9999), a, b);
    }

    private void tend() {
        int work = some(2);
        switch (random.nextInt(7)) {
            case 0 -> both("tune", work, 0, near(0, 1));
            case 1 -> both("tune", work, near(0, 1), near(0, 99));
            case 2 -> both("clean", work);
            case 3 -> both("sew", work);
            case 4 -> both("drop", work);
            case 5 -> both("depth", work);
            default -> both("as", work, near(0, 6));
        }
    }

    private void weathers() {
        switch (random.nextInt(4)) {
            case 0 -> both("table", near(0, 2), near(0, 60), near(0, 9999));
            case 1 -> both("set", near(0, 3), near(0, 99));
            case 2 -> both("set", between(0, 2), near(0, 9999));
            default -> both("set", between(0, 2), near(0, 600));
        }
    }

    private static final String[] KEYS = {"share", "open", "shed", "birth", "vote", "pass"};
    private static final String[] LETTERS = {"acsh", "acsnh", "kmglfph", "pouh", "acsh", "yneh"};

    private String part(int key, int depth) {
        int dice = random.nextInt(10);
        if (dice < 3) {
            return Integer.toString(chance(70) ? upTo(40) : upTo(9999));
        }
        if (dice < 7 || depth <= 0) {
            String letters = LETTERS[key];
            return letters.substring(random.nextInt(letters.length())).substring(0, 1);
        }
        return dice < 8 ? "!" + blank() + part(key, depth - 1) : "(" + blank() + e(key, depth - 1) + blank() + ")";
    }

    private String blank() {
        return chance(80) ? "" : " ";
    }

    private String e(int key, int depth) {
        StringBuilder s = new StringBuilder(part(key, depth));
        boolean compared = false;
        for (int i = upTo(3); i > 0; i--) {
            String sign = "|&<=>+-*/+-*/".substring(random.nextInt(13)).substring(0, 1);
            if ("<=>".contains(sign)) {
                sign = compared && !chance(5) ? "+" : sign;
                compared = true;
            } else if ("|&".contains(sign)) {
                compared = false;
            }
            s.append(blank()).append(sign).append(blank()).append(part(key, depth));
        }
        return s.toString();
    }

    private String text() {
        int key = random.nextInt(6);
        String s = blank() + KEYS[key] + (chance(95) ? " " : "") + blank() + e(key, upTo(3)) + blank();
        if (chance(12)) {
            s = KEYS[key] + " " + "(!(!!".repeat(between(1, 6)) + e(key, 0) + ")".repeat(between(0, 14));
        }
        if (chance(15) && !s.isEmpty()) {
            int at = random.nextInt(s.length());
            String odd = "%|&<=>+-*/()!  az09A" + (char) 0 + (char) 200 + (char) 255;
            s = s.substring(0, at) + odd.charAt(random.nextInt(odd.length())) + s.substring(at + upTo(1));
        }
        if (chance(10)) {
            s = s.substring(0, upTo(s.length()));
        }
        return s.length() > 96 ? s.substring(0, 96) : s;
    }

    private void charter() {
        if (chance(10)) {
            both("feed", random.nextInt(), random.nextInt(), random.nextInt());
            both("trim", near(0, model.count(13)));
            return;
        }
        both("trim", 0);
        String s = text();
        for (int i = 0; i < s.length(); i += 12) {
            int[] v = new int[3];
            for (int k = 0; k < 12; k++) {
                int at = i + k;
                v[k / 4] = v[k / 4] << 8 | (at < s.length() ? s.charAt(at) : 0);
            }
            both("feed", v[0], v[1], v[2]);
        }
        both("trim", s.length());
        int made = both("text");
        boolean kept = made >= 0 && chance(15);
        if (kept) {
            both("keep");
        }
        if (made >= 0 && chance(80)) {
            if (model.count(14) == 1) {
                both("tally");
            }
            both("hold", made);
            for (int i = 0; i < Math.min(3, model.count(4)); i++) {
                both("say", some(4), chance(85) ? 1 : 0);
            }
            both("tally");
            if (chance(60)) {
                both("run", 60 - model.city(6) % 60);
            }
        }
        for (int key = 0; key < 6; key++) {
            both("why", key);
        }
        if (kept && chance(50)) {
            both("back");
            both("of", made, 1);
        }
    }

    private void vote() {
        switch (random.nextInt(7)) {
            case 0 -> both("hold", some(6));
            case 1, 2 -> both("say", some(4), near(0, 1));
            case 3 -> both("tally");
            case 4 -> both("may", some(4), near(0, 2), some(1));
            case 5 -> both("share", some(4), chance(50) ? near(0, 100) : near(0, 999999));
            default -> both("birth", some(0));
        }
    }

    private void sheds() {
        switch (random.nextInt(4)) {
            case 0 -> both("order", near(0, 8));
            case 1 -> both("order", upTo(3));
            case 2 -> both("enough");
            default -> both("shed");
        }
    }

    private void gauges() {
        int cell = some(0);
        switch (random.nextInt(6)) {
            case 0 -> both("gauge", cell, near(-1, 1), near(0, chance(70) ? 6 : 30));
            case 1, 2 -> both("point", cell, near(0, 6), chance(30) ? AcidCity.NONE : near(-100000, 100000));
            case 3 -> both("read", cell, near(0, 6));
            case 4 -> both("worst", near(0, 6), near(0, 2));
            default -> both("copy", cell, near(0, 4), some(0), near(0, 4), near(0, 4));
        }
    }

    private void doubts() {
        for (int i = upTo(6); i >= 0; i--) {
            both("shows", near(0, 7), near(0, 11), near(0, 3));
        }
        if (chance(60)) {
            both("tested", near(0, 7), near(-1, 3));
        }
        both("find", near(0, 1));
    }

    private void rounds() {
        for (int i = upTo(6); i >= 0; i--) {
            both("weather", chance(70) ? near(0, 8) : near(0, 47), near(0, 999));
        }
        int n = chance(50) ? between(1, 10) : near(1, 48);
        both("lack", n, near(0, 9));
        both("sewn", n, near(0, 9), some(2), near(0, lastHour(n, 48)));
    }

    private void night() {
        for (int i = upTo(6); i >= 0; i--) {
            both("harm", near(0, 23), near(0, 3), chance(50) ? near(0, 3) : near(0, 999));
        }
        both("takes", near(0, 3), chance(60) ? near(0, 20) : near(0, 99));
        int n = near(1, 24);
        int bank = chance(50) ? near(0, 60) : near(0, 300);
        both("dark", n, bank);
        both("load", n, bank, near(0, lastHour(n, 24)));
    }

    private void yard() {
        switch (random.nextInt(8)) {
            case 0 -> both("ship", chance(50) ? near(2, 50) : near(2, 9999), near(0, 9999), near(1, chance(50) ? 9 : 999));
            case 1 -> both("window", some(8));
            case 2 -> both("lot", near(1, 30), near(0, 9));
            case 3 -> both("cargo", chance(70) ? near(0, 150) : near(0, 99999));
            case 4 -> both("build", near(1, 9), near(1, 99), chance(50) ? 0 : chance(80) ? 1 << upTo(6) : near(0, 127));
            case 5 -> both("plan", near(1, 60), chance(50) ? near(1, 400) : near(1, 20000));
            case 6 -> both("planned", near(1, 60), near(0, 6));
            default -> both("known", some(0), near(0, 5));
        }
    }

    private void rows() {
        int what = near(0, 2);
        int n = what == 1 ? near(1, 60) : chance(60) ? between(1, 4) : near(1, 24);
        int bank = near(0, 300);
        List<Integer> due = model.rows(what, n, bank, new int[1]);
        if (chance(30) && !due.isEmpty()) {
            due.set(random.nextInt(due.size()), upTo(30));
        }
        if (chance(20)) {
            due.add(0);
        }
        int many = chance(20) ? upTo(due.size()) : due.size();
        for (int i = 0; i < many; i++) {
            both("tell", due.get(i));
        }
        both("check", what, n, bank);
    }

    private void images() {
        switch (random.nextInt(5)) {
            case 0, 1 -> both("keep");
            case 2 -> both("back");
            default -> both("count", near(0, 14));
        }
    }

    private void any() {
        String name = NAMES.get(random.nextInt(NAMES.size()));
        int[] args = new int[REAL.get(name).getParameterCount()];
        for (int i = 0; i < args.length; i++) {
            args[i] = near(0, chance(70) ? 9 : 999);
        }
        both(name, args);
    }

    private void lookAround() {
        for (int i = 0; i < 16; i++) {
            both("count", i);
            both("city", i - 1);
        }
        for (int c = 0; c <= 20; c++) {
            for (int what = 0; what <= 15; what++) {
                both("told", c, what);
            }
            for (int what = 0; what <= 6; what++) {
                both("known", c, what);
            }
            for (int place = -1; place <= 30; place++) {
                both("read", c, place);
            }
        }
        for (int x = 0; x <= 24; x++) {
            for (int what = 0; what <= 11; what++) {
                both("has", x, what);
            }
            for (int what = 0; what <= 5; what++) {
                both("is", x, what);
            }
            both("order", x);
            both("share", x, 1000);
        }
        for (int t = 0; t <= 12; t++) {
            for (int what = 0; what <= 4; what++) {
                both("of", t, what);
            }
        }
        for (int what = 0; what < 2; what++) {
            both("find", what);
        }
        both("enough");
    }
}
