import java.util.ArrayList;
import java.util.Arrays;
import java.util.List;

/**
 * The document once more, written another way (objects, lists, trees, plain search, the machine's own exceptions), so
 * that slips in the class show as answers that differ. It shares no line with the class.
 */
public final class Model {
    static final int BAD = -1000000001, NO = -1000000002, FULL = -1000000003, SPENT = -1000000004, NONE = -1000000005,
            NOTHING = -1000000011, KIND = -1000000012, INDEX = -1000000013, SIZE = -1000000014;

    static final class MCell {
        int volume, hole;
        long[] air = new long[5];
        long[] out = new long[5];
        int[] known;

        MCell dup() {
            MCell m = new MCell();
            m.volume = volume;
            m.hole = hole;
            m.air = air.clone();
            m.out = out.clone();
            m.known = known == null ? null : known.clone();
            return m;
        }
    }

    static final class MLock {
        int one, other, width, open;

        MLock dup() {
            MLock m = new MLock();
            m.one = one;
            m.other = other;
            m.width = width;
            m.open = open;
            return m;
        }
    }

    static final class MWork {
        int kind, cell, mass, a, b, foul, rate, sum, worn, heat;
        boolean on = true, gone;
        Integer level;

        MWork dup() {
            MWork m = new MWork();
            m.kind = kind;
            m.cell = cell;
            m.mass = mass;
            m.a = a;
            m.b = b;
            m.foul = foul;
            m.rate = rate;
            m.sum = sum;
            m.worn = worn;
            m.heat = heat;
            m.on = on;
            m.gone = gone;
            m.level = level;
            return m;
        }
    }

    static final class MPerson {
        int age, craft, cell, sick;

        MPerson dup() {
            MPerson m = new MPerson();
            m.age = age;
            m.craft = craft;
            m.cell = cell;
            m.sick = sick;
            return m;
        }

        boolean lives() {
            return sick != 100;
        }

        int need() {
            return age >= 12 ? 2 : 1;
        }
    }

    static final class MText {
        int key, leaves;
        Integer force, struck;
        Node e;

        MText dup() {
            MText m = new MText();
            m.key = key;
            m.leaves = leaves;
            m.force = force;
            m.struck = struck;
            m.e = e;
            return m;
        }
    }

    static final class MReport {
        int cell, sent, due;
        long[] air;

        MReport dup() {
            MReport m = new MReport();
            m.cell = cell;
            m.sent = sent;
            m.due = due;
            m.air = air.clone();
            return m;
        }
    }

    static final class Node {
        char sign;
        int number;
        Node left, right;
    }

    /** All that an image keeps. */
    static final class World {
        List<MCell> cells = new ArrayList<>();
        List<MLock> locks = new ArrayList<>();
        List<MWork> works = new ArrayList<>();
        List<MPerson> people = new ArrayList<>();
        List<MText> texts = new ArrayList<>();
        List<MReport> way = new ArrayList<>();
        int[] store = new int[6];
        int[][] table = new int[3][61];
        int height = 300, phase, round = 5760, late = 10, minute;
        int vote = -1;
        boolean strike;
        List<Integer> yes = new ArrayList<>();
        List<Integer> no = new ArrayList<>();
        int[][] shows = new int[8][12];
        Integer[] tested = new Integer[8];
        int[] weather = new int[48];
        int[] takes = new int[4];
        int[][] harm = new int[24][4];
        List<int[]> ships = new ArrayList<>();
        List<int[]> lots = new ArrayList<>();
        List<int[]> builds = new ArrayList<>();

        World() {
            for (int l = 0; l <= 60; l++) {
                table[0][l] = 900 - 12 * l;
                table[1][l] = 600 - 10 * l;
                table[2][l] = 60 - l;
            }
        }

        World dup() {
            World w = new World();
            cells.forEach(x -> w.cells.add(x.dup()));
            locks.forEach(x -> w.locks.add(x.dup()));
            works.forEach(x -> w.works.add(x.dup()));
            people.forEach(x -> w.people.add(x.dup()));
            texts.forEach(x -> w.texts.add(x.dup()));
            way.forEach(x -> w.way.add(x.dup()));
            w.store = store.clone();
            for (int i = 0; i < 3; i++) {
                w.table[i] = table[i].clone();
            }
            w.height = height;
            w.phase = phase;
            w.round = round;
            w.late = late;
            w.minute = minute;
            w.vote = vote;
            w.strike = strike;
            w.yes.addAll(yes);
            w.no.addAll(no);
            for (int i = 0; i < 8; i++) {
                w.shows[i] = shows[i].clone();
            }
            w.tested = tested.clone();
            w.weather = weather.clone();
            w.takes = takes.clone();
            for (int i = 0; i < 24; i++) {
                w.harm[i] = harm[i].clone();
            }
            ships.forEach(x -> w.ships.add(x.clone()));
            lots.forEach(x -> w.lots.add(x.clone()));
            builds.forEach(x -> w.builds.add(x.clone()));
            return w;
        }

        int level() {
            return height / 10;
        }

        boolean day(int at) {
            return at % round < round / 2;
        }

        long lift() {
            return works.stream().filter(x -> x.kind == 1 && !x.gone).mapToLong(x -> (long) x.b * table[0][level()] / 100).sum();
        }

        long weight() {
            long mass = works.stream().filter(x -> !x.gone && x.level == null).mapToLong(x -> x.mass).sum();
            long alive = people.stream().filter(MPerson::lives).count();
            long grams = 0;
            for (MCell c : cells) {
                grams += c.air[0] + c.air[1] + c.air[2] + c.air[3];
            }
            for (int k = 0; k < 5; k++) {
                grams += store[k];
            }
            return mass + 60 * alive + grams / 100;
        }

        void gain(MCell c, int gas, long n) {
            c.air[gas] += n;
            while (c.air[gas] > 999999) {
                long over = c.air[gas] - 999999;
                c.out[gas] += over;
                c.air[gas] -= over;
            }
        }

        void minute() {
            List<MReport> stay = new ArrayList<>();
            for (MReport r : way) {
                if (r.due > minute) {
                    stay.add(r);
                } else {
                    hear(r);
                }
            }
            way = stay;
            for (int i = 0; i < works.size(); i++) {
                MWork w = works.get(i);
                if (w.on && !w.gone) {
                    works(i, w, cells.get(w.cell));
                }
            }
            for (MLock l : locks) {
                if (l.open == 1) {
                    MCell p = cells.get(l.one);
                    MCell q = cells.get(l.other);
                    for (int g = 0; g <= 4; g++) {
                        long x = (p.air[g] * q.volume - q.air[g] * p.volume) / (p.volume + q.volume);
                        x = x * l.width / 10;
                        if (x >= 0) {
                            p.air[g] -= x;
                            gain(q, g, x);
                        } else {
                            q.air[g] -= -x;
                            gain(p, g, -x);
                        }
                    }
                }
            }
            for (MCell c : cells) {
                for (int g = 0; g <= 4; g++) {
                    long x = c.air[g] * c.hole / 1000;
                    c.out[g] += x;
                    c.air[g] -= x;
                }
            }
            for (MPerson p : people) {
                if (p.lives()) {
                    breathes(p, cells.get(p.cell));
                }
            }
            long rise = (lift() - weight()) / 10;
            rise = rise > 9 ? 9 : rise < -9 ? -9 : rise;
            height += (int) rise;
            height = height > 600 ? 600 : height < 0 ? 0 : height;
            phase += 1;
            for (MWork w : works) {
                if (!w.gone) {
                    w.sum += w.rate;
                    if (w.sum >= 100) {
                        w.sum -= 100;
                        w.foul += w.foul == 100 ? 0 : 1;
                    }
                }
            }
            minute += 1;
            if (minute % 60 == 0) {
                for (int i = 0; i < cells.size(); i++) {
                    int me = i;
                    if (people.stream().anyMatch(p -> p.craft == 3 && p.lives() && p.cell == me)) {
                        MReport r = new MReport();
                        r.cell = i;
                        r.sent = minute;
                        r.due = minute + late;
                        r.air = cells.get(i).air.clone();
                        if (late == 0) {
                            hear(r);
                        } else if (way.size() < 90) {
                            way.add(r);
                        }
                    }
                }
            }
        }

        void hear(MReport r) {
            MCell c = cells.get(r.cell);
            if (c.known == null || c.known[5] < r.sent) {
                c.known = new int[] {(int) r.air[0], (int) r.air[1], (int) r.air[2], (int) r.air[3], (int) r.air[4], r.sent};
            }
        }

        void works(int number, MWork w, MCell c) {
            if (w.kind == 1) {
                for (MWork other : works) {
                    if (other.kind == 5 && other.a == number && other.on && !other.gone) {
                        return;
                    }
                }
                w.worn += table[2][level()] / 10;
                while (w.worn >= 100 && w.a > 0) {
                    w.worn -= 100;
                    w.a -= 1;
                }
                if (w.a == 0) {
                    w.worn = Math.min(w.worn, 99);
                    int loss = 1 + w.b / 50;
                    loss = loss > w.b ? w.b : loss;
                    w.b -= loss;
                    c.out[1] += loss;
                }
            } else if (w.kind == 2 && day(phase)) {
                long n = Math.min(w.a * (100 - w.foul) / 100, c.air[2]);
                c.air[2] -= n;
                gain(c, 0, n);
            } else if (w.kind == 3 && store[5] > 0) {
                store[5] -= 1;
                long n = Math.min(w.a * (100 - w.foul) / 100, c.air[3]);
                c.air[3] -= n;
                gain(c, 2, n / 2);
                gain(c, 1, n - n / 2);
            } else if (w.kind == 4 && store[5] >= w.a) {
                store[5] -= w.a;
                phase += 1;
            } else if (w.kind == 5) {
                w.b -= 1;
                if (w.b == 0) {
                    w.gone = true;
                }
            } else if (w.kind == 6 && w.level != null) {
                if (w.level > 0) {
                    w.level = w.level - 1;
                }
                w.heat += table[1][w.level];
                if (w.heat > w.a) {
                    w.gone = true;
                }
            }
        }

        void breathes(MPerson p, MCell c) {
            int got = 0;
            for (int i = 0; i < p.need(); i++) {
                if (c.air[0] > 0) {
                    c.air[0] -= 1;
                    got += 1;
                }
            }
            gain(c, 1, got / 2);
            gain(c, 2, got - got / 2);
            boolean fine = true;
            int sick = p.sick;
            if (got < p.need()) {
                sick += 5;
                fine = false;
            }
            if (c.air[3] > c.volume) {
                sick += 3;
                fine = false;
            }
            if (fine) {
                sick -= 1;
            }
            p.sick = sick < 0 ? 0 : sick > 100 ? 100 : sick;
        }
    }

    private World w = new World();
    private World image;
    private final Object[] gauge = new Object[20];
    private final List<Integer> tape = new ArrayList<>();
    private final List<Integer> told = new ArrayList<>();

    private static boolean in(int v, int lo, int hi) {
        return lo <= v && v <= hi;
    }

    private boolean isCell(int i) {
        return in(i, 0, w.cells.size() - 1);
    }

    private boolean isWork(int i) {
        return in(i, 0, w.works.size() - 1);
    }

    private boolean isOne(int i) {
        return in(i, 0, w.people.size() - 1);
    }

    public int cell(int volume) {
        if (!in(volume, 1, 999)) {
            return BAD;
        }
        if (w.cells.size() == 20) {
            return FULL;
        }
        MCell c = new MCell();
        c.volume = volume;
        w.cells.add(c);
        gauge[w.cells.size() - 1] = null;
        return w.cells.size() - 1;
    }

    public int air(int cell, int gas, int v) {
        if (!isCell(cell) || !in(gas, 0, 5) || !in(v, 0, gas == 5 ? 99 : 999999)) {
            return BAD;
        }
        MCell c = w.cells.get(cell);
        int was;
        if (gas == 5) {
            was = c.hole;
            c.hole = v;
        } else {
            was = (int) c.air[gas];
            c.air[gas] = v;
        }
        return was;
    }

    public int told(int cell, int what) {
        if (!isCell(cell) || !in(what, 0, 14) || what == 9) {
            return BAD;
        }
        MCell c = w.cells.get(cell);
        if (what < 5) {
            return (int) c.air[what];
        }
        if (what >= 10) {
            return (int) c.out[what - 10];
        }
        return switch (what) {
            case 5 -> c.hole;
            case 6 -> c.volume;
            case 7 -> (int) w.people.stream().filter(p -> p.lives() && p.cell == cell).count();
            default -> (int) w.works.stream().filter(x -> !x.gone && x.cell == cell).count();
        };
    }

    public int lock(int one, int other, int width) {
        if (!isCell(one) || !isCell(other) || one == other || !in(width, 1, 9)) {
            return BAD;
        }
        if (w.locks.size() == 24) {
            return FULL;
        }
        MLock l = new MLock();
        l.one = one;
        l.other = other;
        l.width = width;
        w.locks.add(l);
        return w.locks.size() - 1;
    }

    public int turn(int lock, int person, int on) {
        if (!in(lock, 0, w.locks.size() - 1) || !isOne(person) || !in(on, 0, 1)) {
            return BAD;
        }
        if (!w.people.get(person).lives() || may(person, 0, lock) == 0) {
            return NO;
        }
        MLock l = w.locks.get(lock);
        int was = l.open;
        l.open = on;
        return was;
    }

    public int store(int which, int v) {
        if (!in(which, 0, 5) || !in(v, 0, 999999)) {
            return BAD;
        }
        int was = w.store[which];
        w.store[which] = v;
        return was;
    }

    public int give(int which, int cell, int grams) {
        if (!List.of(0, 1, 2, 3, 5).contains(which) || !isCell(cell) || !in(grams, 1, 999999)) {
            return BAD;
        }
        long[] air = w.cells.get(cell).air;
        int gas = which == 5 ? 4 : which;
        if (grams > w.store[which] || air[gas] + grams > 999999) {
            return NO;
        }
        air[gas] += grams;
        return w.store[which] -= grams;
    }

    public int work(int kind, int cell, int mass, int a, int b) {
        if (!in(kind, 0, 6) || !isCell(cell) || !in(mass, 1, 9999)) {
            return BAD;
        }
        int[][] limits = {{0, 0, 0, 0}, {1, 9, 0, 99999}, {1, 99, 0, 0}, {1, 99, 0, 0}, {1, 99, 0, 0},
            {0, w.works.size() - 1, 1, 9999}, {1, 99999, 0, 0}};
        int[] lim = limits[kind];
        if (!in(a, lim[0], lim[1]) || !in(b, lim[2], lim[3]) || kind == 5 && w.works.get(a).kind != 1) {
            return BAD;
        }
        if (w.works.size() == 24) {
            return FULL;
        }
        MWork x = new MWork();
        x.kind = kind;
        x.cell = cell;
        x.mass = mass;
        x.a = a;
        x.b = b;
        w.works.add(x);
        return w.works.size() - 1;
    }

    public int has(int work, int what) {
        if (!isWork(work) || !in(what, 0, 10)) {
            return BAD;
        }
        MWork x = w.works.get(work);
        int[] all = {x.kind, x.cell, x.mass, x.on ? 1 : 0, x.foul, x.a, x.b, x.worn, x.gone ? 1 : 0,
            x.level == null ? NONE : x.level, x.heat};
        return all[what];
    }

    public int as(int work, int kind) {
        if (!isWork(work) || !in(kind, 0, 6)) {
            return BAD;
        }
        int[] above = {-1, 0, 0, 0, 3, 1, 0};
        for (int k = w.works.get(work).kind; k >= 0; k = above[k]) {
            if (k == kind) {
                return w.works.get(work).a;
            }
        }
        return KIND;
    }

    public int tune(int work, int what, int v) {
        if (!isWork(work) || !in(what, 0, 1) || what == 0 && !in(v, 0, 1) || what == 1 && !in(v, 0, 99)) {
            return BAD;
        }
        MWork x = w.works.get(work);
        if (x.gone) {
            return NO;
        }
        int was;
        if (what == 0) {
            was = x.on ? 1 : 0;
            x.on = v == 1;
        } else {
            was = x.rate;
            x.rate = v;
        }
        return was;
    }

    public int clean(int work) {
        if (!isWork(work)) {
            return BAD;
        }
        MWork x = w.works.get(work);
        if (x.gone) {
            return NO;
        }
        int was = x.foul;
        x.foul = 0;
        return was;
    }

    public int sew(int work) {
        if (!isWork(work)) {
            return BAD;
        }
        MWork x = w.works.get(work);
        if (x.kind != 1) {
            return KIND;
        }
        if (x.gone || x.a == 9 || w.store[4] == 0) {
            return NO;
        }
        w.store[4] -= 1;
        return ++x.a;
    }

    public int drop(int work) {
        int no = probe(work);
        if (no != 0) {
            return no;
        }
        w.works.get(work).level = w.level();
        return w.level();
    }

    public int depth(int work) {
        int no = probe(work);
        if (no != 0) {
            return no;
        }
        int l = w.level();
        int heat = 0;
        int minutes = 0;
        while (heat <= w.works.get(work).a && minutes < 1000) {
            minutes++;
            l = l == 0 ? 0 : l - 1;
            heat += w.table[1][l];
        }
        return minutes;
    }

    private int probe(int work) {
        if (!isWork(work)) {
            return BAD;
        }
        MWork x = w.works.get(work);
        return x.kind != 6 ? KIND : x.gone || x.level != null ? NO : 0;
    }

    public int table(int which, int level, int v) {
        if (!in(which, 0, 2) || !in(level, 0, 60) || !in(v, 0, 9999)) {
            return BAD;
        }
        int was = w.table[which][level];
        w.table[which][level] = v;
        return was;
    }

    public int set(int what, int v) {
        int[][] limits = {{0, 600}, {0, 99999}, {2, 9999}, {0, 99}};
        if (!in(what, 0, 3) || !in(v, limits[what][0], limits[what][1])) {
            return BAD;
        }
        int[] was = {w.height, w.phase, w.round, w.late};
        switch (what) {
            case 0 -> w.height = v;
            case 1 -> w.phase = v;
            case 2 -> w.round = v;
            default -> w.late = v;
        }
        return was[what];
    }

    public int city(int what) {
        if (!in(what, 0, 13)) {
            return BAD;
        }
        long out = 0;
        for (MCell c : w.cells) {
            out += c.out[0] + c.out[1] + c.out[2] + c.out[3];
        }
        long[] all = {w.height, w.level(), w.lift(), w.weight(), w.day(w.phase) ? 1 : 0, w.phase, w.minute, out};
        return what < 8 ? (int) all[what] : w.store[what - 8];
    }

    public int run(int n) {
        if (!in(n, 1, 120)) {
            return BAD;
        }
        if (w.minute + n > 20000) {
            return FULL;
        }
        for (int i = 0; i < n; i++) {
            w.minute();
        }
        return w.minute;
    }

    public int person(int age, int craft, int cell) {
        if (!in(age, 0, 99) || !in(craft, 0, 3) || !isCell(cell)) {
            return BAD;
        }
        if (w.people.size() == 24) {
            return FULL;
        }
        MPerson p = new MPerson();
        p.age = age;
        p.craft = craft;
        p.cell = cell;
        w.people.add(p);
        return w.people.size() - 1;
    }

    public int be(int person, int what, int v) {
        int[] most = {99, 3, w.cells.size() - 1, 100};
        if (!isOne(person) || !in(what, 0, 3) || !in(v, 0, most[what])) {
            return BAD;
        }
        int was = is(person, what);
        MPerson p = w.people.get(person);
        switch (what) {
            case 0 -> p.age = v;
            case 1 -> p.craft = v;
            case 2 -> p.cell = v;
            default -> p.sick = v;
        }
        return was;
    }

    public int is(int person, int what) {
        if (!isOne(person) || !in(what, 0, 4)) {
            return BAD;
        }
        MPerson p = w.people.get(person);
        return new int[] {p.age, p.craft, p.cell, p.sick, p.lives() ? 0 : 1}[what];
    }

    public int birth(int cell) {
        if (!isCell(cell)) {
            return BAD;
        }
        return may(0, 2, 0) == 0 ? NO : person(0, 0, cell);
    }

    public int feed(int a, int b, int c) {
        if (tape.size() > 84) {
            return FULL;
        }
        for (int v : new int[] {a, b, c}) {
            for (byte x : java.nio.ByteBuffer.allocate(4).putInt(v).array()) {
                tape.add(x & 0xff);
            }
        }
        return tape.size();
    }

    public int trim(int n) {
        if (n < 0 || n > tape.size()) {
            return BAD;
        }
        while (tape.size() > n) {
            tape.remove(tape.size() - 1);
        }
        return n;
    }

    /** Reads a TEXT as the grammar says it, rule by rule. */
    static final class Reader {
        static final class Fault extends RuntimeException {
            final int place;

            Fault(int place) {
                super(null, null, false, false);
                this.place = place;
            }
        }

        private final String tape;
        private final List<String> words = new ArrayList<>();
        private final List<Integer> places = new ArrayList<>();
        private int at;
        private String names;
        private int leaves;

        Reader(String tape) {
            this.tape = tape;
            java.util.regex.Matcher m = java.util.regex.Pattern.compile("[a-z]+|[0-9]+|[^ ]", java.util.regex.Pattern.DOTALL).matcher(tape);
            while (m.find()) {
                words.add(m.group());
                places.add(m.start());
            }
        }

        private String see() {
            return at < words.size() ? words.get(at) : "";
        }

        private Fault fault() {
            return new Fault(at < words.size() ? places.get(at) : tape.length());
        }

        MText text() {
            int key = Arrays.asList("share", "open", "shed", "birth", "vote", "pass").indexOf(see());
            if (key < 0) {
                throw fault();
            }
            names = new String[] {"acs", "acsn", "kmglfp", "pou", "acs", "yne"}[key] + "h";
            at++;
            if (see().matches("[0-9]+") && places.get(1) == places.get(0) + words.get(0).length()) {
                throw fault();
            }
            MText t = new MText();
            t.key = key;
            t.e = or(0, 0);
            if (at < words.size()) {
                throw fault();
            }
            t.leaves = leaves;
            return t;
        }

        private Node two(Node left, Node right, char sign) {
            Node n = new Node();
            n.sign = sign;
            n.left = left;
            n.right = right;
            return n;
        }

        private boolean sees(String signs) {
            return see().length() == 1 && signs.contains(see());
        }

        private char next() {
            return words.get(at++).charAt(0);
        }

        private Node or(int brackets, int nots) {
            Node n = and(brackets, nots);
            while (sees("|")) {
                char s = next();
                n = two(n, and(brackets, nots), s);
            }
            return n;
        }

        private Node and(int brackets, int nots) {
            Node n = test(brackets, nots);
            while (sees("&")) {
                char s = next();
                n = two(n, test(brackets, nots), s);
            }
            return n;
        }

        private Node test(int brackets, int nots) {
            Node n = sum(brackets, nots);
            if (sees("<=>")) {
                char s = next();
                n = two(n, sum(brackets, nots), s);
            }
            return n;
        }

        private Node sum(int brackets, int nots) {
            Node n = term(brackets, nots);
            while (sees("+-")) {
                char s = next();
                n = two(n, term(brackets, nots), s);
            }
            return n;
        }

        private Node term(int brackets, int nots) {
            Node n = part(brackets, nots);
            while (sees("*/")) {
                char s = next();
                n = two(n, part(brackets, nots), s);
            }
            return n;
        }

        private Node part(int brackets, int nots) {
            Node n = new Node();
            if (see().matches("[0-9]{1,4}")) {
                n.sign = '#';
                n.number = Integer.parseInt(see());
                at++;
                leaves++;
                return n;
            }
            if (see().length() == 1 && names.contains(see())) {
                n.sign = next();
                leaves++;
                return n;
            }
            if (sees("!") && nots < 8) {
                n.sign = next();
                n.left = part(brackets, nots + 1);
                return n;
            }
            if (sees("(") && brackets < 8) {
                at++;
                n = or(brackets + 1, nots);
                if (!sees(")")) {
                    throw fault();
                }
                at++;
                return n;
            }
            throw fault();
        }
    }

    interface Names {
        int of(char name);
    }

    private static int value(Node n, Names names) {
        if (n.sign == '#') {
            return n.number;
        }
        if (n.left == null) {
            return names.of(n.sign);
        }
        int x = value(n.left, names);
        if (n.sign == '!') {
            return x == 0 ? 1 : 0;
        }
        int y = value(n.right, names);
        boolean yes = switch (n.sign) {
            case '|' -> x != 0 | y != 0;
            case '&' -> x != 0 & y != 0;
            case '<' -> x < y;
            case '=' -> x == y;
            case '>' -> x > y;
            default -> false;
        };
        return switch (n.sign) {
            case '+' -> (int) ((long) x + y);
            case '-' -> (int) ((long) x - y);
            case '*' -> (int) ((long) x * y);
            case '/' -> y == 0 ? 0 : (int) ((long) x / y);
            default -> yes ? 1 : 0;
        };
    }

    public int text() {
        StringBuilder s = new StringBuilder();
        tape.forEach(b -> s.append((char) (int) b));
        tape.clear();
        try {
            MText t = new Reader(s.toString()).text();
            if (w.texts.size() == 12) {
                return FULL;
            }
            w.texts.add(t);
            return w.texts.size() - 1;
        } catch (Reader.Fault f) {
            return -100 - f.place;
        }
    }

    public int of(int text, int what) {
        if (!in(text, 0, w.texts.size() - 1) || !in(what, 0, 3)) {
            return BAD;
        }
        MText t = w.texts.get(text);
        return switch (what) {
            case 0 -> t.key;
            case 1 -> t.force == null ? NONE : t.force;
            case 2 -> t.struck == null ? NONE : t.struck;
            default -> t.leaves;
        };
    }

    public int hold(int text) {
        if (!in(text, 0, w.texts.size() - 1)) {
            return BAD;
        }
        MText t = w.texts.get(text);
        if (w.vote >= 0 || t.struck != null) {
            return NO;
        }
        w.vote = text;
        w.strike = t.force != null;
        w.yes.clear();
        w.no.clear();
        return w.strike ? 1 : 0;
    }

    public int say(int person, int yes) {
        if (!isOne(person) || !in(yes, 0, 1)) {
            return BAD;
        }
        if (w.vote < 0 || !w.people.get(person).lives() || w.yes.contains(person) || w.no.contains(person)
                || may(person, 1, 0) == 0) {
            return NO;
        }
        List<Integer> side = yes == 1 ? w.yes : w.no;
        side.add(person);
        return side.size();
    }

    public int tally() {
        if (w.vote < 0) {
            return NO;
        }
        MText t = counts(5);
        int y = w.yes.size();
        int n = w.no.size();
        boolean passed = y > n;
        if (t != null) {
            int e = 0;
            for (int i = 0; i < w.people.size(); i++) {
                e += may(i, 1, 0) == 1 ? 1 : 0;
            }
            int all = e;
            passed = value(t.e, c -> c == 'y' ? y : c == 'n' ? n : c == 'e' ? all : w.level()) != 0;
        }
        MText over = w.texts.get(w.vote);
        w.vote = -1;
        if (passed && w.strike) {
            over.struck = w.minute / 60 + 1;
        } else if (passed) {
            over.force = w.minute / 60 + 1;
        }
        return passed ? 1 : 0;
    }

    private boolean counted(MText t) {
        int hour = w.minute / 60;
        return t.force != null && t.force <= hour && !(t.struck != null && t.struck <= hour);
    }

    private MText counts(int key) {
        int at = why(key);
        return at == NONE ? null : w.texts.get(at);
    }

    private Names one(int person, int lock) {
        MPerson p = w.people.get(person);
        return c -> c == 'a' ? p.age : c == 'c' ? p.craft : c == 's' ? p.sick : c == 'n' ? lock : w.level();
    }

    public int may(int person, int what, int n) {
        if (!in(what, 0, 2) || what < 2 && (!isOne(person) || !w.people.get(person).lives())
                || what == 0 && !in(n, 0, w.locks.size() - 1)) {
            return BAD;
        }
        MText t = counts(what == 0 ? 1 : what == 1 ? 4 : 3);
        if (t == null) {
            return 1;
        }
        if (what < 2) {
            return value(t.e, one(person, n)) == 0 ? 0 : 1;
        }
        int p = (int) w.people.stream().filter(MPerson::lives).count();
        int o = w.works.stream().filter(x -> x.kind == 2 && !x.gone).mapToInt(x -> x.a).sum();
        int u = w.people.stream().filter(MPerson::lives).mapToInt(MPerson::need).sum();
        return value(t.e, c -> c == 'p' ? p : c == 'o' ? o : c == 'u' ? u : w.level()) == 0 ? 0 : 1;
    }

    public int why(int key) {
        if (!in(key, 0, 5)) {
            return BAD;
        }
        int best = NONE;
        for (int i = w.texts.size() - 1; i >= 0; i--) {
            MText t = w.texts.get(i);
            if (t.key == key && counted(t) && (best == NONE || t.force > w.texts.get(best).force)) {
                best = i;
            }
        }
        return best;
    }

    public int share(int person, int n) {
        if (!isOne(person) || !in(n, 0, 999999)) {
            return BAD;
        }
        if (!w.people.get(person).lives()) {
            return NO;
        }
        MText t = counts(0);
        long[] part = new long[w.people.size()];
        long all = 0;
        for (int i = 0; i < part.length; i++) {
            if (w.people.get(i).lives()) {
                part[i] = t == null ? 1 : Math.min(9999, Math.max(0, value(t.e, one(i, 0))));
                all += part[i];
            }
        }
        if (all == 0) {
            return 0;
        }
        long[] gets = new long[part.length];
        long rest = n;
        for (int i = 0; i < part.length; i++) {
            gets[i] = n * part[i] / all;
            rest -= gets[i];
        }
        for (int i = 0; rest > 0; i = (i + 1) % part.length) {
            if (part[i] > 0) {
                gets[i]++;
                rest--;
            }
        }
        return (int) gets[person];
    }

    private List<Integer> sheds() {
        MText t = counts(2);
        List<long[]> rows = new ArrayList<>();
        for (int i = 0; i < w.works.size(); i++) {
            MWork x = w.works.get(i);
            if (!x.gone) {
                long p = w.people.stream().filter(q -> q.lives() && q.cell == x.cell).count();
                boolean skin = x.kind == 1;
                long e = t == null ? x.mass : value(t.e, c -> switch (c) {
                    case 'k' -> x.kind;
                    case 'm' -> x.mass;
                    case 'g' -> skin ? x.b : 0;
                    case 'l' -> skin ? x.a : 0;
                    case 'f' -> x.foul;
                    case 'p' -> (int) p;
                    default -> w.level();
                });
                if (e > 0) {
                    rows.add(new long[] {e, i});
                }
            }
        }
        rows.sort((r, s) -> r[0] != s[0] ? Long.compare(s[0], r[0]) : Long.compare(r[1], s[1]));
        List<Integer> all = new ArrayList<>();
        rows.forEach(r -> all.add((int) r[1]));
        return all;
    }

    public int order(int i) {
        if (i < 0) {
            return BAD;
        }
        List<Integer> all = sheds();
        return i < all.size() ? all.get(i) : NONE;
    }

    public int shed() {
        List<Integer> all = sheds();
        if (all.isEmpty()) {
            return NO;
        }
        MWork x = w.works.get(all.get(0));
        x.gone = true;
        if (x.kind == 1) {
            w.cells.get(x.cell).out[1] += x.b;
            x.b = 0;
        }
        return all.get(0);
    }

    public int enough() {
        World was = w;
        w = w.dup();
        int many = 0;
        while (many != NO && w.lift() < w.weight()) {
            many = shed() == NO ? NO : many + 1;
        }
        w = was;
        return many;
    }

    public int gauge(int cell, int sort, int n) {
        if (!isCell(cell) || !in(sort, -1, 1) || sort >= 0 && n > 30) {
            return BAD;
        }
        if (sort == -1) {
            gauge[cell] = null;
            return 0;
        }
        try {
            gauge[cell] = sort == 0 ? new short[n] : new float[n];
            return n;
        } catch (NegativeArraySizeException e) {
            return SIZE;
        }
    }

    public int point(int cell, int place, int v) {
        if (!isCell(cell)) {
            return BAD;
        }
        Object g = gauge[cell];
        if (g == null) {
            return NOTHING;
        }
        try {
            if (g instanceof short[] s) {
                short was = s[place];
                if (v == NONE) {
                    return KIND;
                }
                s[place] = (short) v;
            } else {
                float[] f = (float[]) g;
                float was = f[place];
                if (v != NONE && Math.abs((long) v) > 100000) {
                    return BAD;
                }
                f[place] = v == NONE ? Float.NaN : v / 8f;
            }
            return 1;
        } catch (ArrayIndexOutOfBoundsException e) {
            return INDEX;
        }
    }

    public int read(int cell, int place) {
        if (!isCell(cell)) {
            return BAD;
        }
        Object g = gauge[cell];
        if (g == null) {
            return NOTHING;
        }
        try {
            if (g instanceof short[] s) {
                return s[place];
            }
            float[] f = (float[]) g;
            if (!Float.isNaN(f[place])) {
                return (int) (f[place] * 8);
            }
            if (place == 0 || place == f.length - 1 || Float.isNaN(f[place - 1]) || Float.isNaN(f[place + 1])) {
                return KIND;
            }
            return ((int) (f[place - 1] * 8) + (int) (f[place + 1] * 8)) / 2;
        } catch (ArrayIndexOutOfBoundsException e) {
            return INDEX;
        }
    }

    public int worst(int place, int what) {
        if (place < 0 || !in(what, 0, 2)) {
            return BAD;
        }
        List<int[]> seen = new ArrayList<>();
        for (int i = 0; i < w.cells.size(); i++) {
            int v = read(i, place);
            if (v > -1000000) {
                seen.add(new int[] {v, i});
            }
        }
        if (what == 2) {
            return w.cells.size() - seen.size();
        }
        seen.sort((p, q) -> p[0] != q[0] ? q[0] - p[0] : p[1] - q[1]);
        return seen.isEmpty() ? NONE : seen.get(0)[what];
    }

    public int copy(int from, int place, int to, int at, int many) {
        if (!isCell(from) || !isCell(to)) {
            return BAD;
        }
        try {
            System.arraycopy(gauge[from], place, gauge[to], at, many);
            return many;
        } catch (NullPointerException e) {
            return NOTHING;
        } catch (ArrayStoreException e) {
            return KIND;
        } catch (IndexOutOfBoundsException e) {
            return INDEX;
        }
    }

    public int shows(int test, int fault, int v) {
        if (!in(test, 0, 7) || !in(fault, 0, 11) || !in(v, 0, 3)) {
            return BAD;
        }
        int was = w.shows[test][fault];
        w.shows[test][fault] = v;
        return was;
    }

    private List<Integer> left() {
        List<Integer> all = new ArrayList<>();
        for (int f = 0; f < 12; f++) {
            boolean agrees = true;
            for (int t = 0; t < 8; t++) {
                agrees &= w.tested[t] == null || w.tested[t] == w.shows[t][f];
            }
            if (agrees) {
                all.add(f);
            }
        }
        return all;
    }

    public int tested(int test, int v) {
        if (!in(test, 0, 7) || !in(v, -1, 3)) {
            return BAD;
        }
        w.tested[test] = v < 0 ? null : Integer.valueOf(v);
        return left().size();
    }

    public int find(int what) {
        if (!in(what, 0, 1)) {
            return BAD;
        }
        List<Integer> all = left();
        if (what == 0) {
            return all.stream().mapToInt(f -> 1 << f).sum();
        }
        int best = NONE;
        int least = 13;
        for (int t = 7; t >= 0; t--) {
            if (w.tested[t] == null) {
                int[] groups = new int[4];
                for (int f : all) {
                    groups[w.shows[t][f]]++;
                }
                int most = Arrays.stream(groups).max().getAsInt();
                if (most < all.size() && most <= least) {
                    least = most;
                    best = t;
                }
            }
        }
        return best;
    }

    public int weather(int i, int v) {
        if (!in(i, 0, 47) || !in(v, 0, 999)) {
            return BAD;
        }
        int was = w.weather[i];
        w.weather[i] = v;
        return was;
    }

    /** Goes HOUR by HOUR, foretelling by going on with copies. */
    private int[][] rounds(int n, int least) {
        int many = w.works.size();
        int[] layers = new int[many];
        int[] worn = new int[many];
        List<Integer> skins = new ArrayList<>();
        for (int i = 0; i < many; i++) {
            MWork x = w.works.get(i);
            if (x.kind == 1 && !x.gone) {
                skins.add(i);
                layers[i] = x.a;
                worn[i] = x.worn;
            }
        }
        long fitters = w.people.stream().filter(p -> p.craft == 1 && p.lives() && p.sick <= 50).count();
        int[][] sewn = new int[many + 1][n];
        int lack = NONE;
        for (int h = 0; h < n; h++) {
            for (int f = 0; f < fitters; f++) {
                int best = -1;
                int when = n;
                for (int s : skins) {
                    int l = layers[s];
                    int wo = worn[s];
                    int g = h;
                    for (; g < n; g++) {
                        wo += w.weather[g] * 6 / 10;
                        while (wo >= 100) {
                            wo -= 100;
                            l--;
                        }
                        if (l < least) {
                            break;
                        }
                    }
                    if (g < when && layers[s] < 9) {
                        best = s;
                        when = g;
                    }
                }
                if (best >= 0) {
                    layers[best]++;
                    sewn[best][h]++;
                }
            }
            for (int s : skins) {
                worn[s] += w.weather[h] * 6 / 10;
                while (worn[s] >= 100) {
                    worn[s] -= 100;
                    layers[s]--;
                }
                if (layers[s] < least && lack == NONE) {
                    lack = h;
                }
            }
        }
        sewn[many][0] = lack;
        return sewn;
    }

    public int lack(int n, int least) {
        return in(n, 1, 48) && in(least, 0, 9) ? rounds(n, least)[w.works.size()][0] : BAD;
    }

    public int sewn(int n, int least, int work, int i) {
        if (!in(n, 1, 48) || !in(least, 0, 9) || !isWork(work) || !in(i, 0, n - 1)) {
            return BAD;
        }
        return rounds(n, least)[work][i];
    }

    public int takes(int load, int v) {
        if (!in(load, 0, 3) || !in(v, 0, 99)) {
            return BAD;
        }
        int was = w.takes[load];
        w.takes[load] = v;
        return was;
    }

    public int harm(int i, int load, int v) {
        if (!in(i, 0, 23) || !in(load, 0, 3) || !in(v, 0, 999)) {
            return BAD;
        }
        int was = w.harm[i][load];
        w.harm[i][load] = v;
        return was;
    }

    private record Way(int harm, String loads) {
        boolean better(Way o) {
            return o == null || harm < o.harm || harm == o.harm && loads.compareTo(o.loads) < 0;
        }
    }

    /** Goes forward, keeping for each BANK the best way that leads there. */
    private Way way(int n, int bank) {
        Way[] at = new Way[301];
        at[bank] = new Way(0, "");
        for (int h = 0; h < n; h++) {
            Way[] next = new Way[301];
            for (int b = 0; b <= 300; b++) {
                for (int l = 0; l < 4 && at[b] != null; l++) {
                    int to = b - w.takes[l];
                    if (to >= 0) {
                        Way x = new Way(at[b].harm + w.harm[h][l], at[b].loads + l);
                        if (x.better(next[to])) {
                            next[to] = x;
                        }
                    }
                }
            }
            at = next;
        }
        Way best = null;
        for (Way x : at) {
            if (x != null && x.better(best)) {
                best = x;
            }
        }
        return best;
    }

    public int dark(int n, int bank) {
        if (!in(n, 1, 24) || !in(bank, 0, 300)) {
            return BAD;
        }
        Way x = way(n, bank);
        return x == null ? NONE : x.harm;
    }

    public int load(int n, int bank, int i) {
        if (!in(n, 1, 24) || !in(bank, 0, 300) || !in(i, 0, n - 1)) {
            return BAD;
        }
        Way x = way(n, bank);
        return x == null ? NONE : x.loads.charAt(i) - '0';
    }

    public int known(int cell, int what) {
        if (!isCell(cell) || !in(what, 0, 5)) {
            return BAD;
        }
        int[] k = w.cells.get(cell).known;
        return k == null ? NONE : k[what];
    }

    public int ship(int orbit, int begin, int window) {
        if (!in(orbit, 2, 9999) || !in(begin, 0, 9999) || !in(window, 1, 999)) {
            return BAD;
        }
        if (w.ships.size() == 6) {
            return FULL;
        }
        w.ships.add(new int[] {orbit, begin, window});
        return w.ships.size() - 1;
    }

    public int window(int ship) {
        if (!in(ship, 0, w.ships.size() - 1)) {
            return BAD;
        }
        int[] s = w.ships.get(ship);
        int phase = w.phase;
        for (int t = w.minute; t <= w.minute + 12000; t++, phase++) {
            int rest = (t - s[1]) % s[0];
            rest = rest < 0 ? rest + s[0] : rest;
            if (rest < s[2] && w.day(phase)) {
                return t;
            }
        }
        return NONE;
    }

    public int lot(int mass, int worth) {
        if (!in(mass, 1, 9999) || !in(worth, 0, 999)) {
            return BAD;
        }
        if (w.lots.size() == 10) {
            return FULL;
        }
        w.lots.add(new int[] {mass, worth});
        return w.lots.size() - 1;
    }

    public int cargo(int mass) {
        if (!in(mass, 0, 99999)) {
            return BAD;
        }
        int[] best = null;
        for (int bits = (1 << w.lots.size()) - 1; bits >= 0; bits--) {
            int m = 0;
            int v = 0;
            for (int i = 0; i < w.lots.size(); i++) {
                if ((bits & 1 << i) != 0) {
                    m += w.lots.get(i)[0];
                    v += w.lots.get(i)[1];
                }
            }
            if (m <= mass && (best == null || v > best[1] || v == best[1] && m <= best[2])) {
                best = new int[] {bits, v, m};
            }
        }
        return best[0];
    }

    public int build(int years, int more, int ahead) {
        if (!in(years, 1, 9) || !in(more, 1, 99) || ahead < 0 || ahead > 127) {
            return BAD;
        }
        if (w.builds.size() == 7) {
            return FULL;
        }
        w.builds.add(new int[] {years, more, ahead});
        return w.builds.size() - 1;
    }

    private int put;
    private int bestSum;
    private List<Integer> best;

    private void seek(List<Integer> row, int years) {
        if (row.size() == w.builds.size()) {
            int sum = 0;
            int done = 0;
            for (int b : row) {
                done += w.builds.get(b)[0];
                for (int year = done + 1; year <= years; year++) {
                    sum += w.builds.get(b)[1];
                }
            }
            if (best == null || sum > bestSum) {
                best = new ArrayList<>(row);
                bestSum = sum;
            }
            return;
        }
        for (int b = 0; b < w.builds.size(); b++) {
            boolean can = !row.contains(b);
            for (int o = 0; o < 7; o++) {
                can &= (w.builds.get(b)[2] >> o & 1) == 0 || row.contains(o);
            }
            if (can) {
                put++;
                row.add(b);
                seek(row, years);
                row.remove(row.size() - 1);
            }
        }
    }

    private int sought(int years, int tries) {
        put = 0;
        best = null;
        seek(new ArrayList<>(), years);
        return put > tries ? SPENT : best == null ? NO : bestSumOf();
    }

    private int bestSumOf() {
        return best.isEmpty() ? 0 : bestSum;
    }

    public int plan(int years, int tries) {
        return in(years, 1, 60) && in(tries, 1, 20000) ? sought(years, tries) : BAD;
    }

    public int planned(int years, int i) {
        if (!in(years, 1, 60) || i < 0) {
            return BAD;
        }
        int sum = sought(years, 20000);
        return sum < 0 ? sum : i < best.size() ? best.get(i) : NONE;
    }

    public int tell(int v) {
        if (told.size() == 60) {
            return FULL;
        }
        told.add(v);
        return told.size();
    }

    /** The ROWS that check() wants, or what it refuses with. */
    List<Integer> rows(int what, int n, int bank, int[] refused) {
        List<Integer> due = new ArrayList<>();
        refused[0] = 0;
        if (!in(what, 0, 2) || !in(n, 1, what == 1 ? 60 : 24) || what == 0 && !in(bank, 0, 300)) {
            refused[0] = BAD;
        } else if (what == 0) {
            Way x = way(n, bank);
            if (x == null) {
                refused[0] = NONE;
                return due;
            }
            for (char c : x.loads.toCharArray()) {
                bank -= w.takes[c - '0'];
                due.add(c - '0');
                due.add(bank);
            }
        } else if (what == 1) {
            int sum = sought(n, 20000);
            if (sum < 0) {
                refused[0] = sum;
                return due;
            }
            int year = 0;
            for (int b : best) {
                year += w.builds.get(b)[0];
                due.add(b);
                due.add(year);
            }
        } else if (image == null) {
            refused[0] = NO;
        } else {
            World x = image.dup();
            for (int h = 0; h < n; h++) {
                for (int m = 0; m < 60; m++) {
                    x.minute();
                }
                due.add(x.height);
                due.add((int) x.cells.stream().mapToLong(c -> c.air[0]).sum());
            }
        }
        return due;
    }

    public int check(int what, int n, int bank) {
        List<Integer> said = new ArrayList<>(told);
        told.clear();
        int[] refused = new int[1];
        List<Integer> due = rows(what, n, bank, refused);
        if (refused[0] != 0) {
            return refused[0];
        }
        if (said.equals(due)) {
            return 0;
        }
        int right = 0;
        while (right < said.size() && right < due.size() && said.get(right).equals(due.get(right))) {
            right++;
        }
        return 1 + right;
    }

    public int keep() {
        image = w.dup();
        return w.minute;
    }

    public int back() {
        if (image == null) {
            return NO;
        }
        w = image.dup();
        return w.minute;
    }

    public int count(int what) {
        if (!in(what, 0, 14)) {
            return BAD;
        }
        long[] all = {w.cells.size(), w.locks.size(), w.works.size(), w.works.stream().filter(x -> x.gone).count(),
            w.people.size(), w.people.stream().filter(p -> !p.lives()).count(), w.texts.size(),
            w.texts.stream().filter(this::counted).count(), w.ships.size(), w.lots.size(), w.builds.size(),
            w.way.size(), told.size(), tape.size(), w.vote < 0 ? 0 : 1};
        return (int) all[what];
    }
}
