import java.util.Arrays;

/** A city in acid clouds. The document's promises say what each call answers. */
public final class AcidCity {
    public static final int BAD = -1000000001, NO = -1000000002, FULL = -1000000003, SPENT = -1000000004,
            NONE = -1000000005, NOTHING = -1000000011, KIND = -1000000012, INDEX = -1000000013, SIZE = -1000000014;

    private static final int MOST_CELLS = 20, MOST_LOCKS = 24, MOST_WORKS = 24, MOST_PEOPLE = 24, MOST_TEXTS = 12,
            MOST_REPORTS = 90, MOST_SHIPS = 6, MOST_LOTS = 10, MOST_BUILDS = 7, MOST_BYTES = 96, MOST_PLACES = 30,
            MOST_WAITING = 60, MOST_MINUTES = 20000, MOST_TRIES = 20000, MOST_NESTED = 8, MOST_LAYERS = 9;
    private static final int MOST_GRAMS = 999999, MOST_BANK = 300, MOST_PART = 9999, MOST_HEIGHT = 600;
    private static final int ROUND_HOURS = 48, DARK_HOURS = 24, DAY_HOURS = 24, FAULTS = 12, TESTS = 8, LOADS = 4;

    private static final int OXYGEN = 0, CARRIER = 1, VAPOUR = 2, ACID = 3, WARMTH = 4, AIRS = 5;
    private static final int CLOTH = 4, POWER = 5, STORES = 6;
    private static final int WORK = 0, SKIN = 1, GARDEN = 2, STILL = 3, ROTOR = 4, PATCH = 5, PROBE = 6;
    private static final int DENSE = 0, HEAT = 1, DROPS = 2, TABLES = 3, LEVELS = 61;
    private static final int FITTER = 1, WATCH = 3;
    private static final int SHARE = 0, OPEN = 1, SHED = 2, BIRTH = 3, VOTE = 4, PASS = 5, KEYS = 6;
    /** Places in the row of a REPORT, behind its AIR; KNOWN has the first of them, too. */
    private static final int SENT = 5, DUE = 6, SENDER = 7;
    /** A TEXT's codes: NUMBERS are below NAME_CODE, NAMES from there on, signs from SIGN_CODE on. */
    private static final int NAME_CODE = 10000, SIGN_CODE = 20000;

    private final City now = new City();
    private final Charter law = new Charter();
    private final Desk desk = new Desk();
    private final City keptNow = new City();
    private final Charter keptLaw = new Charter();
    private final Desk keptDesk = new Desk();
    private boolean kept;
    /** THE DAY TOLD goes by here, so that neither the city nor THE IMAGE is touched. */
    private final City foretold = new City();
    private final Tape tape = new Tape();
    private final Gauges gauges = new Gauges();
    private final Rounds rounds = new Rounds();
    private final Dark night = new Dark();
    private final Order yard = new Order();
    private final int[] waiting = new int[MOST_WAITING];
    private int waits;
    private final int[] due = new int[MOST_WAITING];

    public AcidCity() {
    }

    // ---- the city

    public int cell(int volume) {
        if (!within(volume, 1, 999)) {
            return BAD;
        }
        int made = now.cells.addCell(volume);
        if (made >= 0) {
            gauges.forget(made);
        }
        return made;
    }

    public int air(int cell, int gas, int v) {
        if (!now.isCell(cell) || !within(gas, 0, AIRS)) {
            return BAD;
        }
        if (gas == AIRS) {
            return within(v, 0, 99) ? swap(now.cells.hole, cell, v) : BAD;
        }
        return within(v, 0, MOST_GRAMS) ? swap(now.cells.air[cell], gas, v) : BAD;
    }

    public int told(int cell, int what) {
        if (!now.isCell(cell)) {
            return BAD;
        }
        if (within(what, 0, AIRS - 1)) {
            return now.cells.air[cell][what];
        }
        if (within(what, 10, 10 + AIRS - 1)) {
            return now.cells.out[cell][what - 10];
        }
        switch (what) {
            case 5:
                return now.cells.hole[cell];
            case 6:
                return now.cells.volume[cell];
            case 7:
                return now.people.livingIn(cell);
            case 8:
                return now.works.standingIn(cell);
            default:
                return BAD;
        }
    }

    public int lock(int one, int other, int width) {
        if (!now.isCell(one) || !now.isCell(other) || one == other || !within(width, 1, 9)) {
            return BAD;
        }
        return now.cells.addLock(one, other, width);
    }

    public int turn(int lock, int person, int on) {
        if (!now.isLock(lock) || !now.isPerson(person) || !within(on, 0, 1)) {
            return BAD;
        }
        if (now.people.isDead(person) || !law.mayOpen(now, person, lock)) {
            return NO;
        }
        return swap(now.cells.open, lock, on);
    }

    public int store(int which, int v) {
        if (!within(which, 0, STORES - 1) || !within(v, 0, MOST_GRAMS)) {
            return BAD;
        }
        return swap(now.stores, which, v);
    }

    public int give(int which, int cell, int grams) {
        if (!within(which, 0, STORES - 1) || which == CLOTH || !now.isCell(cell) || !within(grams, 1, MOST_GRAMS)) {
            return BAD;
        }
        int gas = which == POWER ? WARMTH : which;
        if (now.stores[which] < grams || now.cells.air[cell][gas] + grams > MOST_GRAMS) {
            return NO;
        }
        now.stores[which] -= grams;
        now.cells.air[cell][gas] += grams;
        return now.stores[which];
    }

    public int work(int kind, int cell, int mass, int a, int b) {
        if (!now.isCell(cell) || !within(mass, 1, 9999) || !now.works.canBe(kind, a, b)) {
            return BAD;
        }
        return now.works.addWork(kind, cell, mass, a, b);
    }

    public int has(int work, int what) {
        return now.isWork(work) ? now.works.tellOf(work, what) : BAD;
    }

    public int as(int work, int kind) {
        if (!now.isWork(work) || !within(kind, WORK, PROBE)) {
            return BAD;
        }
        return now.works.isOf(work, kind) ? now.works.a[work] : KIND;
    }

    public int tune(int work, int what, int v) {
        if (!now.isWork(work) || !within(what, 0, 1) || !within(v, 0, what == 0 ? 1 : 99)) {
            return BAD;
        }
        if (now.works.isGone(work)) {
            return NO;
        }
        return what == 0 ? swap(now.works.on, work, v) : swap(now.works.fouling, work, v);
    }

    public int clean(int work) {
        if (!now.isWork(work)) {
            return BAD;
        }
        return now.works.isGone(work) ? NO : swap(now.works.foul, work, 0);
    }

    public int sew(int work) {
        if (!now.isWork(work)) {
            return BAD;
        }
        Works all = now.works;
        if (all.kind[work] != SKIN) {
            return KIND;
        }
        if (all.isGone(work) || all.a[work] >= MOST_LAYERS || now.stores[CLOTH] < 1) {
            return NO;
        }
        now.stores[CLOTH]--;
        all.a[work]++;
        return all.a[work];
    }

    public int drop(int work) {
        int refused = refusedProbe(work);
        if (refused != 0) {
            return refused;
        }
        now.works.level[work] = now.level();
        return now.level();
    }

    public int depth(int work) {
        int refused = refusedProbe(work);
        return refused != 0 ? refused : now.minutesTillLost(now.works.a[work]);
    }

    private int refusedProbe(int work) {
        if (!now.isWork(work)) {
            return BAD;
        }
        if (now.works.kind[work] != PROBE) {
            return KIND;
        }
        return now.works.isGone(work) || now.works.isDropped(work) ? NO : 0;
    }

    public int table(int which, int level, int v) {
        if (!within(which, 0, TABLES - 1) || !within(level, 0, LEVELS - 1) || !within(v, 0, 9999)) {
            return BAD;
        }
        return swap(now.tables[which], level, v);
    }

    public int set(int what, int v) {
        return now.setTo(what, v);
    }

    public int city(int what) {
        if (within(what, 8, 8 + STORES - 1)) {
            return now.stores[what - 8];
        }
        switch (what) {
            case 0:
                return now.height;
            case 1:
                return now.level();
            case 2:
                return now.lift();
            case 3:
                return now.weight();
            case 4:
                return now.isDay() ? 1 : 0;
            case 5:
                return now.phase;
            case 6:
                return now.minute;
            case 7:
                return now.cells.gasesOut();
            default:
                return BAD;
        }
    }

    public int run(int n) {
        if (!within(n, 1, 120)) {
            return BAD;
        }
        if (now.minute + n > MOST_MINUTES) {
            return FULL;
        }
        for (int i = 0; i < n; i++) {
            now.passMinute();
        }
        return now.minute;
    }

    // ---- people, the charter

    public int person(int age, int craft, int cell) {
        if (!within(age, 0, 99) || !within(craft, 0, 3) || !now.isCell(cell)) {
            return BAD;
        }
        return now.people.addPerson(age, craft, cell);
    }

    public int be(int person, int what, int v) {
        if (!now.isPerson(person)) {
            return BAD;
        }
        switch (what) {
            case 0:
                return within(v, 0, 99) ? swap(now.people.age, person, v) : BAD;
            case 1:
                return within(v, 0, 3) ? swap(now.people.craft, person, v) : BAD;
            case 2:
                return now.isCell(v) ? swap(now.people.home, person, v) : BAD;
            case 3:
                return within(v, 0, 100) ? swap(now.people.sick, person, v) : BAD;
            default:
                return BAD;
        }
    }

    public int is(int person, int what) {
        if (!now.isPerson(person)) {
            return BAD;
        }
        switch (what) {
            case 0:
                return now.people.age[person];
            case 1:
                return now.people.craft[person];
            case 2:
                return now.people.home[person];
            case 3:
                return now.people.sick[person];
            case 4:
                return now.people.isDead(person) ? 1 : 0;
            default:
                return BAD;
        }
    }

    public int birth(int cell) {
        if (!now.isCell(cell)) {
            return BAD;
        }
        return law.mayBeBorn(now) ? now.people.addPerson(0, 0, cell) : NO;
    }

    public int feed(int a, int b, int c) {
        return tape.add(a, b, c);
    }

    public int trim(int n) {
        if (!within(n, 0, tape.length)) {
            return BAD;
        }
        tape.length = n;
        return n;
    }

    public int text() {
        int fault = tape.compile();
        tape.length = 0;
        return fault != NONE ? -100 - fault : law.addText(tape);
    }

    public int of(int text, int what) {
        if (!law.isText(text)) {
            return BAD;
        }
        switch (what) {
            case 0:
                return law.key[text];
            case 1:
                return law.force[text];
            case 2:
                return law.struck[text];
            case 3:
                return law.leaves[text];
            default:
                return BAD;
        }
    }

    public int hold(int text) {
        if (!law.isText(text)) {
            return BAD;
        }
        return law.voted != NONE || law.struck[text] != NONE ? NO : law.beginVote(text);
    }

    public int say(int person, int yes) {
        if (!now.isPerson(person) || !within(yes, 0, 1)) {
            return BAD;
        }
        if (law.voted == NONE || now.people.isDead(person) || law.said[person] != NONE) {
            return NO;
        }
        if (!law.mayVote(now, person)) {
            return NO;
        }
        law.said[person] = yes;
        return law.saidSo(yes);
    }

    public int tally() {
        if (law.voted == NONE) {
            return NO;
        }
        boolean passed = law.passes(now);
        law.endVote(passed, now.hour() + 1);
        return passed ? 1 : 0;
    }

    public int may(int person, int what, int n) {
        if (what == 2) {
            return law.mayBeBorn(now) ? 1 : 0;
        }
        if (!within(what, 0, 1) || !now.isPerson(person) || now.people.isDead(person)) {
            return BAD;
        }
        if (what == 1) {
            return law.mayVote(now, person) ? 1 : 0;
        }
        if (!now.isLock(n)) {
            return BAD;
        }
        return law.mayOpen(now, person, n) ? 1 : 0;
    }

    public int why(int key) {
        return within(key, 0, KEYS - 1) ? law.counting(key, now.hour()) : BAD;
    }

    public int share(int person, int n) {
        if (!now.isPerson(person) || !within(n, 0, MOST_GRAMS)) {
            return BAD;
        }
        return now.people.isDead(person) ? NO : law.shareOf(now, person, n);
    }

    public int order(int i) {
        if (i < 0) {
            return BAD;
        }
        law.rankSheds(now);
        int found = law.nextShed(now);
        for (int behind = 0; behind < i && found != NONE; behind++) {
            found = law.nextShed(now);
        }
        return found;
    }

    public int shed() {
        law.rankSheds(now);
        int first = law.nextShed(now);
        if (first == NONE) {
            return NO;
        }
        now.shedWork(first);
        return first;
    }

    public int enough() {
        law.rankSheds(now);
        int lift = now.lift();
        int weight = now.weight();
        for (int many = 0; many <= MOST_WORKS; many++) {
            if (lift >= weight) {
                return many;
            }
            int next = law.nextShed(now);
            if (next == NONE) {
                return NO;
            }
            lift -= now.liftOf(next);
            weight -= now.works.weightOf(next);
        }
        return NO;
    }

    // ---- gauges

    public int gauge(int cell, int sort, int n) {
        if (!now.isCell(cell) || !within(sort, -1, 1)) {
            return BAD;
        }
        if (sort == -1) {
            gauges.forget(cell);
            return 0;
        }
        if (n > MOST_PLACES) {
            return BAD;
        }
        return n < 0 ? SIZE : gauges.begin(cell, sort, n);
    }

    public int point(int cell, int place, int v) {
        return now.isCell(cell) ? gauges.put(cell, place, v) : BAD;
    }

    public int read(int cell, int place) {
        return now.isCell(cell) ? gauges.numberAt(cell, place) : BAD;
    }

    public int worst(int place, int what) {
        if (place < 0 || !within(what, 0, 2)) {
            return BAD;
        }
        int cell = NONE;
        int most = NONE;
        int unread = 0;
        for (int c = 0; c < now.cells.many; c++) {
            int number = gauges.numberAt(c, place);
            if (Gauges.isFinding(number)) {
                unread++;
            } else if (cell == NONE || number > most) {
                cell = c;
                most = number;
            }
        }
        return what == 0 ? most : what == 1 ? cell : unread;
    }

    public int copy(int from, int place, int to, int at, int many) {
        return now.isCell(from) && now.isCell(to) ? gauges.carry(from, place, to, at, many) : BAD;
    }

    // ---- doubts, rounds, the dark

    public int shows(int test, int fault, int v) {
        if (!within(test, 0, TESTS - 1) || !within(fault, 0, FAULTS - 1) || !within(v, 0, 3)) {
            return BAD;
        }
        return swap(desk.shown[test], fault, v);
    }

    public int tested(int test, int v) {
        if (!within(test, 0, TESTS - 1) || !within(v, -1, 3)) {
            return BAD;
        }
        desk.seen[test] = v;
        return Integer.bitCount(desk.leftFaults());
    }

    public int find(int what) {
        if (!within(what, 0, 1)) {
            return BAD;
        }
        return what == 0 ? desk.leftFaults() : desk.nextTest();
    }

    public int weather(int i, int v) {
        return within(i, 0, ROUND_HOURS - 1) && within(v, 0, 999) ? swap(desk.drops, i, v) : BAD;
    }

    public int lack(int n, int least) {
        if (!within(n, 1, ROUND_HOURS) || !within(least, 0, MOST_LAYERS)) {
            return BAD;
        }
        rounds.goRound(now, desk, n, least, NONE, NONE);
        return rounds.firstLack;
    }

    public int sewn(int n, int least, int work, int i) {
        if (!within(n, 1, ROUND_HOURS) || !within(least, 0, MOST_LAYERS) || !now.isWork(work) || !within(i, 0, n - 1)) {
            return BAD;
        }
        rounds.goRound(now, desk, n, least, work, i);
        return rounds.sewnThen;
    }

    public int takes(int load, int v) {
        return within(load, 0, LOADS - 1) && within(v, 0, 99) ? swap(desk.taken, load, v) : BAD;
    }

    public int harm(int i, int load, int v) {
        if (!within(i, 0, DARK_HOURS - 1) || !within(load, 0, LOADS - 1) || !within(v, 0, 999)) {
            return BAD;
        }
        return swap(desk.harms[i], load, v);
    }

    public int dark(int n, int bank) {
        if (!within(n, 1, DARK_HOURS) || !within(bank, 0, MOST_BANK)) {
            return BAD;
        }
        return night.leastHarm(desk, n, bank);
    }

    public int load(int n, int bank, int i) {
        if (!within(n, 1, DARK_HOURS) || !within(bank, 0, MOST_BANK) || !within(i, 0, n - 1)) {
            return BAD;
        }
        return night.leastHarm(desk, n, bank) == NONE ? NONE : night.loadAt(bank, i);
    }

    // ---- the room, ships, builds

    public int known(int cell, int what) {
        return now.isCell(cell) && within(what, 0, SENT) ? now.cells.heard[cell][what] : BAD;
    }

    public int ship(int orbit, int begin, int window) {
        if (!within(orbit, 2, 9999) || !within(begin, 0, 9999) || !within(window, 1, 999)) {
            return BAD;
        }
        return desk.addShip(orbit, begin, window);
    }

    public int window(int ship) {
        return within(ship, 0, desk.ships - 1) ? desk.nextMeeting(ship, now) : BAD;
    }

    public int lot(int mass, int worth) {
        return within(mass, 1, 9999) && within(worth, 0, 999) ? desk.addLot(mass, worth) : BAD;
    }

    public int cargo(int mass) {
        return within(mass, 0, 99999) ? desk.bestLots(mass) : BAD;
    }

    public int build(int years, int more, int ahead) {
        if (!within(years, 1, 9) || !within(more, 1, 99) || !within(ahead, 0, 127)) {
            return BAD;
        }
        return desk.addBuild(years, more, ahead);
    }

    public int plan(int years, int tries) {
        if (!within(years, 1, 60) || !within(tries, 1, MOST_TRIES)) {
            return BAD;
        }
        return yard.bestSum(desk, years, tries);
    }

    public int planned(int years, int i) {
        if (!within(years, 1, 60) || i < 0) {
            return BAD;
        }
        int sum = yard.bestSum(desk, years, MOST_TRIES);
        if (sum < 0) {
            return sum;
        }
        return i < desk.builds ? yard.best[i] : NONE;
    }

    // ---- rows, images

    public int tell(int v) {
        if (waits >= MOST_WAITING) {
            return FULL;
        }
        waiting[waits] = v;
        waits++;
        return waits;
    }

    public int check(int what, int n, int bank) {
        int told = waits;
        waits = 0;
        switch (what) {
            case 0:
                return within(n, 1, DARK_HOURS) && within(bank, 0, MOST_BANK) ? checkLoads(n, bank, told) : BAD;
            case 1:
                return within(n, 1, 60) ? checkOrder(n, told) : BAD;
            case 2:
                return within(n, 1, DAY_HOURS) ? checkDay(n, told) : BAD;
            default:
                return BAD;
        }
    }

    private int checkLoads(int n, int bank, int told) {
        if (night.leastHarm(desk, n, bank) == NONE) {
            return NONE;
        }
        int left = bank;
        for (int i = 0; i < n; i++) {
            int chosen = night.loadAt(bank, i);
            left -= desk.taken[chosen];
            due[2 * i] = chosen;
            due[2 * i + 1] = left;
        }
        return firstWrong(2 * n, told);
    }

    private int checkOrder(int years, int told) {
        int sum = yard.bestSum(desk, years, MOST_TRIES);
        if (sum < 0) {
            return sum;
        }
        int year = 0;
        for (int i = 0; i < desk.builds; i++) {
            year += desk.years[yard.best[i]];
            due[2 * i] = yard.best[i];
            due[2 * i + 1] = year;
        }
        return firstWrong(2 * desk.builds, told);
    }

    private int checkDay(int n, int told) {
        if (!kept) {
            return NO;
        }
        foretold.becomeAs(keptNow);
        // Hours of which nobody told anything need not be worked out.
        int hours = Math.min(n, (told + 1) / 2);
        for (int i = 0; i < hours; i++) {
            for (int m = 0; m < 60; m++) {
                foretold.passMinute();
            }
            due[2 * i] = foretold.height;
            due[2 * i + 1] = foretold.cells.oxygen();
        }
        return firstWrong(2 * n, told);
    }

    private int firstWrong(int needed, int told) {
        int both = Math.min(needed, told);
        for (int i = 0; i < both; i++) {
            if (waiting[i] != due[i]) {
                return 1 + i;
            }
        }
        return needed == told ? 0 : 1 + both;
    }

    public int keep() {
        keptNow.becomeAs(now);
        keptLaw.becomeAs(law);
        keptDesk.becomeAs(desk);
        kept = true;
        return now.minute;
    }

    public int back() {
        if (!kept) {
            return NO;
        }
        now.becomeAs(keptNow);
        law.becomeAs(keptLaw);
        desk.becomeAs(keptDesk);
        return now.minute;
    }

    public int count(int what) {
        switch (what) {
            case 0:
                return now.cells.many;
            case 1:
                return now.cells.locks;
            case 2:
                return now.works.many;
            case 3:
                return now.works.goneOnes();
            case 4:
                return now.people.many;
            case 5:
                return now.people.many - now.people.living();
            case 6:
                return law.texts;
            case 7:
                return law.inForceAt(now.hour());
            case 8:
                return desk.ships;
            case 9:
                return desk.lots;
            case 10:
                return desk.builds;
            case 11:
                return now.cells.reports;
            case 12:
                return waits;
            case 13:
                return tape.length;
            case 14:
                return law.voted == NONE ? 0 : 1;
            default:
                return BAD;
        }
    }

    private static boolean within(int v, int low, int high) {
        return v >= low && v <= high;
    }

    /** The caller has looked at the place. */
    private static int swap(int[] row, int place, int v) {
        int was = row[place];
        row[place] = v;
        return was;
    }

    private static void copyRow(int[] from, int[] to) {
        System.arraycopy(from, 0, to, 0, Math.min(from.length, to.length));
    }

    private static void copyRows(int[][] from, int[][] to) {
        int rows = Math.min(from.length, to.length);
        for (int i = 0; i < rows; i++) {
            copyRow(from[i], to[i]);
        }
    }

    /** CELLS, the LOCKS between them, and the REPORTS that they send. */
    private static final class Cells {
        final int[] volume = new int[MOST_CELLS];
        final int[] hole = new int[MOST_CELLS];
        final int[][] air = new int[MOST_CELLS][AIRS];
        final int[][] out = new int[MOST_CELLS][AIRS];
        /** KNOWN: AIR, and the MINUTE in which it was sent; NONE without a REPORT. */
        final int[][] heard = new int[MOST_CELLS][SENT + 1];
        int many;
        final int[] one = new int[MOST_LOCKS];
        final int[] other = new int[MOST_LOCKS];
        final int[] width = new int[MOST_LOCKS];
        final int[] open = new int[MOST_LOCKS];
        int locks;
        final int[][] report = new int[MOST_REPORTS][SENDER + 1];
        int reports;

        int addCell(int v) {
            int made = many;
            if (made >= MOST_CELLS) {
                return FULL;
            }
            volume[made] = v;
            hole[made] = 0;
            Arrays.fill(air[made], 0);
            Arrays.fill(out[made], 0);
            Arrays.fill(heard[made], NONE);
            many = made + 1;
            return made;
        }

        int addLock(int first, int second, int wide) {
            int made = locks;
            if (made >= MOST_LOCKS) {
                return FULL;
            }
            one[made] = first;
            other[made] = second;
            width[made] = wide;
            open[made] = 0;
            locks = made + 1;
            return made;
        }

        void addAir(int cell, int gas, int grams) {
            int sum = air[cell][gas] + grams;
            air[cell][gas] = Math.min(sum, MOST_GRAMS);
            if (sum > MOST_GRAMS) {
                out[cell][gas] += sum - MOST_GRAMS;
            }
        }

        void flow(int lock) {
            int first = one[lock];
            int second = other[lock];
            int both = volume[first] + volume[second];
            if (both <= 0) {
                return;
            }
            for (int gas = 0; gas < AIRS; gas++) {
                int alike = (air[first][gas] * volume[second] - air[second][gas] * volume[first]) / both;
                int goes = alike * width[lock] / 10;
                if (goes > 0) {
                    air[first][gas] -= goes;
                    addAir(second, gas, goes);
                } else {
                    air[second][gas] += goes;
                    addAir(first, gas, -goes);
                }
            }
        }

        void flowAll() {
            for (int lock = 0; lock < locks; lock++) {
                if (open[lock] == 1) {
                    flow(lock);
                }
            }
        }

        void leakAll() {
            for (int cell = 0; cell < many; cell++) {
                for (int gas = 0; gas < AIRS; gas++) {
                    int lost = air[cell][gas] * hole[cell] / 1000;
                    air[cell][gas] -= lost;
                    out[cell][gas] += lost;
                }
            }
        }

        int gases() {
            int sum = 0;
            for (int cell = 0; cell < many; cell++) {
                for (int gas = 0; gas < WARMTH; gas++) {
                    sum += air[cell][gas];
                }
            }
            return sum;
        }

        int gasesOut() {
            int sum = 0;
            for (int cell = 0; cell < many; cell++) {
                for (int gas = 0; gas < WARMTH; gas++) {
                    sum += out[cell][gas];
                }
            }
            return sum;
        }

        int oxygen() {
            int sum = 0;
            for (int cell = 0; cell < many; cell++) {
                sum += air[cell][OXYGEN];
            }
            return sum;
        }

        void sendReport(int cell, int minute, int late) {
            if (late == 0) {
                System.arraycopy(air[cell], 0, heard[cell], 0, AIRS);
                heard[cell][SENT] = minute;
            } else if (reports < MOST_REPORTS) {
                int[] row = report[reports];
                System.arraycopy(air[cell], 0, row, 0, AIRS);
                row[SENT] = minute;
                row[DUE] = minute + late;
                row[SENDER] = cell;
                reports++;
            }
        }

        void takeReports(int minute) {
            int stay = 0;
            for (int i = 0; i < reports; i++) {
                int[] row = report[i];
                if (row[DUE] > minute) {
                    copyRow(row, report[stay]);
                    stay++;
                } else {
                    hear(row);
                }
            }
            reports = stay;
        }

        /** One that was sent later may have come ahead of it, if LATE was set in between. */
        private void hear(int[] row) {
            int cell = row[SENDER];
            if (row[SENT] > heard[cell][SENT]) {
                System.arraycopy(row, 0, heard[cell], 0, SENT + 1);
            }
        }

        void becomeAs(Cells from) {
            copyRow(from.volume, volume);
            copyRow(from.hole, hole);
            copyRows(from.air, air);
            copyRows(from.out, out);
            copyRows(from.heard, heard);
            many = from.many;
            copyRow(from.one, one);
            copyRow(from.other, other);
            copyRow(from.width, width);
            copyRow(from.open, open);
            locks = from.locks;
            copyRows(from.report, report);
            reports = from.reports;
        }
    }

    /** WORKS of all KINDS, by number. */
    private static final class Works {
        final int[] kind = new int[MOST_WORKS];
        final int[] place = new int[MOST_WORKS];
        final int[] mass = new int[MOST_WORKS];
        final int[] on = new int[MOST_WORKS];
        final int[] foul = new int[MOST_WORKS];
        final int[] fouling = new int[MOST_WORKS];
        final int[] hidden = new int[MOST_WORKS];
        final int[] a = new int[MOST_WORKS];
        final int[] b = new int[MOST_WORKS];
        final int[] worn = new int[MOST_WORKS];
        final int[] gone = new int[MOST_WORKS];
        /** Of a PROBE that was dropped; NONE else. */
        final int[] level = new int[MOST_WORKS];
        final int[] heat = new int[MOST_WORKS];
        int many;

        boolean canBe(int sort, int first, int second) {
            switch (sort) {
                case WORK:
                    return first == 0 && second == 0;
                case SKIN:
                    return within(first, 1, MOST_LAYERS) && within(second, 0, 99999);
                case GARDEN:
                case STILL:
                case ROTOR:
                    return within(first, 1, 99) && second == 0;
                case PATCH:
                    return within(first, 0, many - 1) && kind[first] == SKIN && within(second, 1, 9999);
                case PROBE:
                    return within(first, 1, 99999) && second == 0;
                default:
                    return false;
            }
        }

        int addWork(int sort, int cell, int weight, int first, int second) {
            int made = many;
            if (made >= MOST_WORKS) {
                return FULL;
            }
            kind[made] = sort;
            place[made] = cell;
            mass[made] = weight;
            on[made] = 1;
            foul[made] = 0;
            fouling[made] = 0;
            hidden[made] = 0;
            a[made] = first;
            b[made] = second;
            worn[made] = 0;
            gone[made] = 0;
            level[made] = NONE;
            heat[made] = 0;
            many = made + 1;
            return made;
        }

        int tellOf(int work, int what) {
            switch (what) {
                case 0:
                    return kind[work];
                case 1:
                    return place[work];
                case 2:
                    return mass[work];
                case 3:
                    return on[work];
                case 4:
                    return foul[work];
                case 5:
                    return a[work];
                case 6:
                    return b[work];
                case 7:
                    return worn[work];
                case 8:
                    return gone[work];
                case 9:
                    return level[work];
                case 10:
                    return heat[work];
                default:
                    return BAD;
            }
        }

        boolean isOf(int work, int sort) {
            int own = kind[work];
            return sort == WORK || sort == own || sort == SKIN && own == PATCH || sort == STILL && own == ROTOR;
        }

        boolean isGone(int work) {
            return gone[work] == 1;
        }

        boolean isDropped(int work) {
            return level[work] != NONE;
        }

        boolean isSkin(int work) {
            return kind[work] == SKIN && gone[work] == 0;
        }

        int weightOf(int work) {
            return isGone(work) || isDropped(work) ? 0 : mass[work];
        }

        boolean isPatched(int skin) {
            for (int work = 0; work < many; work++) {
                if (kind[work] == PATCH && a[work] == skin && on[work] == 1 && gone[work] == 0) {
                    return true;
                }
            }
            return false;
        }

        void wear(int skin, int more) {
            int sum = worn[skin] + more;
            int lost = Math.min(sum / 100, a[skin]);
            a[skin] -= lost;
            sum -= 100 * lost;
            worn[skin] = Math.min(sum, 99);
        }

        int partForFoul(int work) {
            return a[work] * (100 - foul[work]) / 100;
        }

        void foulAll() {
            for (int work = 0; work < many; work++) {
                if (gone[work] == 0) {
                    hidden[work] += fouling[work];
                    foul[work] = Math.min(100, foul[work] + hidden[work] / 100);
                    hidden[work] %= 100;
                }
            }
        }

        int standingIn(int cell) {
            int sum = 0;
            for (int work = 0; work < many; work++) {
                if (place[work] == cell && gone[work] == 0) {
                    sum++;
                }
            }
            return sum;
        }

        int goneOnes() {
            int sum = 0;
            for (int work = 0; work < many; work++) {
                sum += gone[work];
            }
            return sum;
        }

        int gardenRates() {
            int sum = 0;
            for (int work = 0; work < many; work++) {
                if (kind[work] == GARDEN && gone[work] == 0) {
                    sum += a[work];
                }
            }
            return sum;
        }

        void becomeAs(Works from) {
            copyRow(from.kind, kind);
            copyRow(from.place, place);
            copyRow(from.mass, mass);
            copyRow(from.on, on);
            copyRow(from.foul, foul);
            copyRow(from.fouling, fouling);
            copyRow(from.hidden, hidden);
            copyRow(from.a, a);
            copyRow(from.b, b);
            copyRow(from.worn, worn);
            copyRow(from.gone, gone);
            copyRow(from.level, level);
            copyRow(from.heat, heat);
            many = from.many;
        }
    }

    /** PEOPLE, by number; the DEAD stay among them. */
    private static final class People {
        final int[] age = new int[MOST_PEOPLE];
        final int[] craft = new int[MOST_PEOPLE];
        final int[] home = new int[MOST_PEOPLE];
        final int[] sick = new int[MOST_PEOPLE];
        int many;

        int addPerson(int years, int skill, int cell) {
            int made = many;
            if (made >= MOST_PEOPLE) {
                return FULL;
            }
            age[made] = years;
            craft[made] = skill;
            home[made] = cell;
            sick[made] = 0;
            many = made + 1;
            return made;
        }

        boolean isDead(int one) {
            return sick[one] >= 100;
        }

        int needOf(int one) {
            return age[one] < 12 ? 1 : 2;
        }

        void sicken(int one, int more) {
            sick[one] = Math.max(0, Math.min(100, sick[one] + more));
        }

        int living() {
            int sum = 0;
            for (int one = 0; one < many; one++) {
                if (!isDead(one)) {
                    sum++;
                }
            }
            return sum;
        }

        int livingIn(int cell) {
            int sum = 0;
            for (int one = 0; one < many; one++) {
                if (home[one] == cell && !isDead(one)) {
                    sum++;
                }
            }
            return sum;
        }

        int needs() {
            int sum = 0;
            for (int one = 0; one < many; one++) {
                if (!isDead(one)) {
                    sum += needOf(one);
                }
            }
            return sum;
        }

        int ableFitters() {
            int sum = 0;
            for (int one = 0; one < many; one++) {
                if (craft[one] == FITTER && sick[one] <= 50) {
                    sum++;
                }
            }
            return sum;
        }

        boolean isWatched(int cell) {
            for (int one = 0; one < many; one++) {
                if (home[one] == cell && craft[one] == WATCH && !isDead(one)) {
                    return true;
                }
            }
            return false;
        }

        void becomeAs(People from) {
            copyRow(from.age, age);
            copyRow(from.craft, craft);
            copyRow(from.home, home);
            copyRow(from.sick, sick);
            many = from.many;
        }
    }

    /** All that MINUTES change, and how they do. */
    private static final class City {
        final Cells cells = new Cells();
        final Works works = new Works();
        final People people = new People();
        final int[] stores = new int[STORES];
        final int[][] tables = new int[TABLES][LEVELS];
        int height = 300;
        int phase;
        int round = 5760;
        int late = 10;
        int minute;

        City() {
            for (int l = 0; l < LEVELS; l++) {
                tables[DENSE][l] = 900 - 12 * l;
                tables[HEAT][l] = 600 - 10 * l;
                tables[DROPS][l] = 60 - l;
            }
        }

        boolean isCell(int cell) {
            return within(cell, 0, cells.many - 1);
        }

        boolean isLock(int lock) {
            return within(lock, 0, cells.locks - 1);
        }

        boolean isWork(int work) {
            return within(work, 0, works.many - 1);
        }

        boolean isPerson(int one) {
            return within(one, 0, people.many - 1);
        }

        int setTo(int what, int v) {
            int was;
            if (what == 0 && within(v, 0, MOST_HEIGHT)) {
                was = height;
                height = v;
            } else if (what == 1 && within(v, 0, 99999)) {
                was = phase;
                phase = v;
            } else if (what == 2 && within(v, 2, 9999)) {
                was = round;
                round = v;
            } else if (what == 3 && within(v, 0, 99)) {
                was = late;
                late = v;
            } else {
                was = BAD;
            }
            return was;
        }

        int level() {
            return height / 10;
        }

        int hour() {
            return minute / 60;
        }

        boolean isDay() {
            return isDayAt(phase);
        }

        boolean isDayAt(int when) {
            return round > 0 && when % round < round / 2;
        }

        int liftOf(int work) {
            return works.isSkin(work) ? works.b[work] * tables[DENSE][level()] / 100 : 0;
        }

        int lift() {
            int sum = 0;
            for (int work = 0; work < works.many; work++) {
                sum += liftOf(work);
            }
            return sum;
        }

        int weight() {
            int grams = cells.gases();
            for (int which = 0; which <= CLOTH; which++) {
                grams += stores[which];
            }
            int sum = 60 * people.living() + grams / 100;
            for (int work = 0; work < works.many; work++) {
                sum += works.weightOf(work);
            }
            return sum;
        }

        void passMinute() {
            cells.takeReports(minute);
            for (int work = 0; work < works.many; work++) {
                if (works.on[work] == 1 && !works.isGone(work)) {
                    runWork(work);
                }
            }
            cells.flowAll();
            cells.leakAll();
            for (int one = 0; one < people.many; one++) {
                if (!people.isDead(one)) {
                    breathe(one);
                }
            }
            rise();
            phase++;
            works.foulAll();
            minute++;
            if (minute % 60 == 0) {
                sendReports();
            }
        }

        private void runWork(int work) {
            switch (works.kind[work]) {
                case SKIN:
                    runSkin(work);
                    break;
                case GARDEN:
                    runGarden(work);
                    break;
                case STILL:
                    runStill(work);
                    break;
                case ROTOR:
                    runRotor(work);
                    break;
                case PATCH:
                    works.b[work]--;
                    works.gone[work] = works.b[work] <= 0 ? 1 : 0;
                    break;
                case PROBE:
                    runProbe(work);
                    break;
                default:
                    break;
            }
        }

        private void runSkin(int skin) {
            if (works.isPatched(skin)) {
                return;
            }
            works.wear(skin, tables[DROPS][level()] / 10);
            if (works.a[skin] == 0) {
                int gas = works.b[skin];
                loseGas(skin, Math.min(gas, 1 + gas / 50));
            }
        }

        private void loseGas(int skin, int grams) {
            works.b[skin] -= grams;
            cells.out[works.place[skin]][CARRIER] += grams;
        }

        private void runGarden(int garden) {
            if (!isDay()) {
                return;
            }
            int cell = works.place[garden];
            int grams = Math.min(works.partForFoul(garden), cells.air[cell][VAPOUR]);
            cells.air[cell][VAPOUR] -= grams;
            cells.addAir(cell, OXYGEN, grams);
        }

        private void runStill(int still) {
            if (stores[POWER] < 1) {
                return;
            }
            stores[POWER]--;
            int cell = works.place[still];
            int grams = Math.min(works.partForFoul(still), cells.air[cell][ACID]);
            cells.air[cell][ACID] -= grams;
            cells.addAir(cell, VAPOUR, grams / 2);
            cells.addAir(cell, CARRIER, grams - grams / 2);
        }

        private void runRotor(int rotor) {
            if (stores[POWER] >= works.a[rotor]) {
                stores[POWER] -= works.a[rotor];
                phase++;
            }
        }

        private void runProbe(int probe) {
            if (works.isDropped(probe)) {
                works.level[probe] = Math.max(0, works.level[probe] - 1);
                works.heat[probe] += tables[HEAT][works.level[probe]];
                works.gone[probe] = works.heat[probe] > works.a[probe] ? 1 : 0;
            }
        }

        int minutesTillLost(int borne) {
            int at = level();
            int taken = 0;
            for (int minutes = 1; minutes <= 1000; minutes++) {
                at = Math.max(0, at - 1);
                taken += tables[HEAT][at];
                if (taken > borne) {
                    return minutes;
                }
            }
            return 1000;
        }

        private void breathe(int one) {
            int cell = people.home[one];
            int need = people.needOf(one);
            int got = Math.min(need, cells.air[cell][OXYGEN]);
            cells.air[cell][OXYGEN] -= got;
            cells.addAir(cell, CARRIER, got / 2);
            cells.addAir(cell, VAPOUR, got - got / 2);
            int more = got < need ? 5 : 0;
            if (cells.air[cell][ACID] > cells.volume[cell]) {
                more += 3;
            }
            people.sicken(one, more == 0 ? -1 : more);
        }

        private void rise() {
            int more = (lift() - weight()) / 10;
            more = Math.max(-9, Math.min(9, more));
            height = Math.max(0, Math.min(MOST_HEIGHT, height + more));
        }

        private void sendReports() {
            for (int cell = 0; cell < cells.many; cell++) {
                if (people.isWatched(cell)) {
                    cells.sendReport(cell, minute, late);
                }
            }
        }

        void shedWork(int work) {
            if (works.isSkin(work)) {
                loseGas(work, works.b[work]);
            }
            works.gone[work] = 1;
        }

        void becomeAs(City from) {
            cells.becomeAs(from.cells);
            works.becomeAs(from.works);
            people.becomeAs(from.people);
            copyRow(from.stores, stores);
            copyRows(from.tables, tables);
            height = from.height;
            phase = from.phase;
            round = from.round;
            late = from.late;
            minute = from.minute;
        }
    }

    /** THE TAPE, and how a TEXT is read from it into codes that stand behind what they work on. */
    private static final class Tape {
        final int[] bytes = new int[MOST_BYTES];
        int length;
        int key;
        final int[] code = new int[MOST_BYTES];
        int codes;
        int leaves;
        /** Signs whose right side is not read to its end. */
        private final int[] pending = new int[MOST_BYTES];
        private int pendings;
        private int brackets;
        private int nots;
        /** Whether a PART must come next, not a sign behind one. */
        private boolean partDue;

        int add(int x, int y, int z) {
            if (length + 12 > MOST_BYTES) {
                return FULL;
            }
            addFour(x);
            addFour(y);
            addFour(z);
            return length;
        }

        private void addFour(int v) {
            for (int shift = 24; shift >= 0 && length < MOST_BYTES; shift -= 8) {
                bytes[length] = (v >>> shift) & 255;
                length++;
            }
        }

        /** The place of the FAULT, or NONE. */
        int compile() {
            codes = 0;
            leaves = 0;
            pendings = 0;
            brackets = 0;
            nots = 0;
            partDue = true;
            int from = behindBlanks(0);
            int keyEnd = behindWord(from);
            key = keyBetween(from, keyEnd);
            if (key == NONE) {
                return from;
            }
            from = behindBlanks(keyEnd);
            for (int words = 0; words < MOST_BYTES && from < length; words++) {
                boolean glued = from == keyEnd && isDigit(bytes[from]);
                int to = behindWord(from);
                if (glued || !(partDue ? takePart(from, to) : takeSign(bytes[from]))) {
                    return from;
                }
                from = behindBlanks(to);
            }
            if (partDue || brackets > 0) {
                return length;
            }
            settle(0);
            return NONE;
        }

        private int behindBlanks(int from) {
            int at = from;
            while (at < length && bytes[at] == ' ') {
                at++;
            }
            return at;
        }

        /** Behind the word, or the one sign, that begins there. */
        private int behindWord(int from) {
            int at = from;
            if (at < length && isLetter(bytes[at])) {
                while (at < length && isLetter(bytes[at])) {
                    at++;
                }
            } else if (at < length && isDigit(bytes[at])) {
                while (at < length && isDigit(bytes[at])) {
                    at++;
                }
            } else if (at < length) {
                at++;
            }
            return at;
        }

        private static boolean isLetter(int sign) {
            return sign >= 'a' && sign <= 'z';
        }

        private static boolean isDigit(int sign) {
            return sign >= '0' && sign <= '9';
        }

        private int keyBetween(int from, int to) {
            for (int k = 0; k < KEYS; k++) {
                if (isWord(wordOf(k), from, to)) {
                    return k;
                }
            }
            return NONE;
        }

        private boolean isWord(String word, int from, int to) {
            if (to - from != word.length()) {
                return false;
            }
            for (int i = 0; i < word.length(); i++) {
                if (bytes[from + i] != word.charAt(i)) {
                    return false;
                }
            }
            return true;
        }

        private static String wordOf(int key) {
            switch (key) {
                case SHARE:
                    return "share";
                case OPEN:
                    return "open";
                case SHED:
                    return "shed";
                case BIRTH:
                    return "birth";
                case VOTE:
                    return "vote";
                default:
                    return "pass";
            }
        }

        private static String namesOf(int key) {
            switch (key) {
                case OPEN:
                    return "acsnh";
                case SHED:
                    return "kmglfph";
                case BIRTH:
                    return "pouh";
                case PASS:
                    return "yneh";
                default:
                    return "acsh";
            }
        }

        private boolean takePart(int from, int to) {
            int first = bytes[from];
            if (isLetter(first)) {
                return to - from == 1 && namesOf(key).indexOf((char) first) >= 0 && takeLeaf(NAME_CODE + first - 'a');
            }
            if (isDigit(first)) {
                return to - from <= 4 && takeLeaf(numberBetween(from, to));
            }
            if (first == '(' && brackets < MOST_NESTED) {
                brackets++;
                return push(first);
            }
            if (first == '!' && nots < MOST_NESTED) {
                nots++;
                return push(first);
            }
            return false;
        }

        private boolean takeLeaf(int leaf) {
            leaves++;
            partDue = false;
            return emit(leaf);
        }

        private int numberBetween(int from, int to) {
            int number = 0;
            for (int i = from; i < to; i++) {
                number = 10 * number + bytes[i] - '0';
            }
            return number;
        }

        private boolean takeSign(int sign) {
            if (sign == ')') {
                return brackets > 0 && close();
            }
            int strength = strengthOf(sign);
            if (strength == 0) {
                return false;
            }
            // Only one of < = > may stand in a TEST, so one that waits must not be settled by the next.
            boolean compares = strength == strengthOf('=');
            settle(compares ? strength + 1 : strength);
            if (compares && pendings > 0 && strengthOf(pending[pendings - 1]) == strength) {
                return false;
            }
            partDue = true;
            return push(sign);
        }

        private boolean close() {
            settle(1);
            if (pendings > 0) {
                pendings--;
            }
            brackets--;
            return true;
        }

        /** How tightly a sign binds; 0 of ( and of what stands between no PARTS. */
        private static int strengthOf(int sign) {
            switch (sign) {
                case '|':
                    return 1;
                case '&':
                    return 2;
                case '<':
                case '=':
                case '>':
                    return 3;
                case '+':
                case '-':
                    return 4;
                case '*':
                case '/':
                    return 5;
                default:
                    return 0;
            }
        }

        private static int strengthWaiting(int sign) {
            return sign == '!' ? 6 : strengthOf(sign);
        }

        /** What waits and binds at least so tightly has its right side now. */
        private void settle(int strength) {
            while (pendings > 0 && strengthWaiting(pending[pendings - 1]) >= strength) {
                pendings--;
                if (pending[pendings] == '!') {
                    nots--;
                }
                emit(SIGN_CODE + pending[pendings]);
            }
        }

        private boolean push(int sign) {
            if (pendings >= MOST_BYTES) {
                return false;
            }
            pending[pendings] = sign;
            pendings++;
            return true;
        }

        private boolean emit(int v) {
            if (codes >= MOST_BYTES) {
                return false;
            }
            code[codes] = v;
            codes++;
            return true;
        }
    }

    /** TEXTS, the VOTE, and what is worked out by those in FORCE. */
    private static final class Charter {
        final int[] key = new int[MOST_TEXTS];
        final int[] force = new int[MOST_TEXTS];
        final int[] struck = new int[MOST_TEXTS];
        final int[] leaves = new int[MOST_TEXTS];
        private final int[] length = new int[MOST_TEXTS];
        private final int[][] code = new int[MOST_TEXTS][MOST_BYTES];
        int texts;
        /** The TEXT over which a VOTE is held; NONE without one. */
        int voted = NONE;
        private boolean striking;
        /** 1, 0, or NONE of who has not said. */
        final int[] said = new int[MOST_PEOPLE];
        private final int[] names = new int[26];
        private final int[] stack = new int[MOST_BYTES];
        private final int[] parts = new int[MOST_PEOPLE];
        private final int[] ranks = new int[MOST_WORKS];

        boolean isText(int text) {
            return within(text, 0, texts - 1);
        }

        int addText(Tape tape) {
            int made = texts;
            if (made >= MOST_TEXTS) {
                return FULL;
            }
            key[made] = tape.key;
            force[made] = NONE;
            struck[made] = NONE;
            leaves[made] = tape.leaves;
            length[made] = tape.codes;
            copyRow(tape.code, code[made]);
            texts = made + 1;
            return made;
        }

        private boolean isInForce(int text, int hour) {
            return force[text] != NONE && force[text] <= hour && (struck[text] == NONE || struck[text] > hour);
        }

        int inForceAt(int hour) {
            int sum = 0;
            for (int text = 0; text < texts; text++) {
                if (isInForce(text, hour)) {
                    sum++;
                }
            }
            return sum;
        }

        /** The TEXT of a KEY that counts, or NONE. */
        int counting(int wanted, int hour) {
            int found = NONE;
            int latest = NONE;
            for (int text = 0; text < texts; text++) {
                if (key[text] == wanted && isInForce(text, hour) && force[text] >= latest) {
                    found = text;
                    latest = force[text];
                }
            }
            return found;
        }

        private void put(char name, int v) {
            names[name - 'a'] = v;
        }

        private void putOne(City city, int one) {
            put('a', city.people.age[one]);
            put('c', city.people.craft[one]);
            put('s', city.people.sick[one]);
            put('h', city.level());
        }

        private void putWork(City city, int work) {
            Works all = city.works;
            boolean skin = all.kind[work] == SKIN;
            put('k', all.kind[work]);
            put('m', all.mass[work]);
            put('g', skin ? all.b[work] : 0);
            put('l', skin ? all.a[work] : 0);
            put('f', all.foul[work]);
            put('p', city.people.livingIn(all.place[work]));
            put('h', city.level());
        }

        /** By the names as they are put. */
        private int worth(int text) {
            int top = 0;
            for (int i = 0; i < length[text]; i++) {
                int v = code[text][i];
                if (v < SIGN_CODE && top < stack.length) {
                    stack[top] = v < NAME_CODE ? v : nameAt(v - NAME_CODE);
                    top++;
                } else if (v == SIGN_CODE + '!' && top >= 1) {
                    stack[top - 1] = stack[top - 1] == 0 ? 1 : 0;
                } else if (top >= 2) {
                    top--;
                    stack[top - 1] = joined(v - SIGN_CODE, stack[top - 1], stack[top]);
                }
            }
            return stack[0];
        }

        private int nameAt(int i) {
            return i >= 0 && i < names.length ? names[i] : 0;
        }

        private static int joined(int sign, int x, int y) {
            switch (sign) {
                case '|':
                    return x != 0 || y != 0 ? 1 : 0;
                case '&':
                    return x != 0 && y != 0 ? 1 : 0;
                case '<':
                    return x < y ? 1 : 0;
                case '=':
                    return x == y ? 1 : 0;
                case '>':
                    return x > y ? 1 : 0;
                case '+':
                    return x + y;
                case '-':
                    return x - y;
                case '*':
                    return x * y;
                default:
                    return y == 0 ? 0 : x / y;
            }
        }

        private boolean allows(int wanted, int hour) {
            int text = counting(wanted, hour);
            return text == NONE || worth(text) != 0;
        }

        boolean mayOpen(City city, int one, int lock) {
            putOne(city, one);
            put('n', lock);
            return allows(OPEN, city.hour());
        }

        boolean mayVote(City city, int one) {
            putOne(city, one);
            return allows(VOTE, city.hour());
        }

        boolean mayBeBorn(City city) {
            put('p', city.people.living());
            put('o', city.works.gardenRates());
            put('u', city.people.needs());
            put('h', city.level());
            return allows(BIRTH, city.hour());
        }

        /** 1, if it is to strike the TEXT. */
        int beginVote(int text) {
            voted = text;
            striking = force[text] != NONE;
            Arrays.fill(said, NONE);
            return striking ? 1 : 0;
        }

        int saidSo(int yes) {
            int sum = 0;
            for (int one = 0; one < said.length; one++) {
                if (said[one] == yes) {
                    sum++;
                }
            }
            return sum;
        }

        void endVote(boolean passed, int from) {
            if (passed && isText(voted)) {
                if (striking) {
                    struck[voted] = from;
                } else {
                    force[voted] = from;
                }
            }
            voted = NONE;
        }

        boolean passes(City city) {
            int text = counting(PASS, city.hour());
            if (text == NONE) {
                return saidSo(1) > saidSo(0);
            }
            int voters = voters(city);
            put('y', saidSo(1));
            put('n', saidSo(0));
            put('e', voters);
            put('h', city.level());
            return worth(text) != 0;
        }

        private int voters(City city) {
            int sum = 0;
            for (int one = 0; one < city.people.many; one++) {
                if (!city.people.isDead(one) && mayVote(city, one)) {
                    sum++;
                }
            }
            return sum;
        }

        private int partOf(City city, int one) {
            if (city.people.isDead(one)) {
                return 0;
            }
            int text = counting(SHARE, city.hour());
            if (text == NONE) {
                return 1;
            }
            putOne(city, one);
            return Math.max(0, Math.min(MOST_PART, worth(text)));
        }

        int shareOf(City city, int wanted, int n) {
            long all = 0;
            for (int one = 0; one < city.people.many; one++) {
                parts[one] = partOf(city, one);
                all += parts[one];
            }
            if (all == 0) {
                return 0;
            }
            long left = n;
            int ahead = 0;
            for (int one = 0; one < city.people.many; one++) {
                left -= (long) n * parts[one] / all;
                if (one < wanted && parts[one] > 0) {
                    ahead++;
                }
            }
            int whole = (int) ((long) n * parts[wanted] / all);
            return parts[wanted] > 0 && ahead < left ? whole + 1 : whole;
        }

        private int shedWorth(City city, int work) {
            if (city.works.isGone(work)) {
                return 0;
            }
            int text = counting(SHED, city.hour());
            if (text == NONE) {
                return city.works.mass[work];
            }
            putWork(city, work);
            return worth(text);
        }

        void rankSheds(City city) {
            for (int work = 0; work < city.works.many; work++) {
                ranks[work] = shedWorth(city, work);
            }
        }

        /** The next one in order since they were ranked, or NONE. */
        int nextShed(City city) {
            int found = NONE;
            int most = 0;
            for (int work = 0; work < city.works.many; work++) {
                if (ranks[work] > most) {
                    found = work;
                    most = ranks[work];
                }
            }
            if (found != NONE) {
                ranks[found] = 0;
            }
            return found;
        }

        void becomeAs(Charter from) {
            copyRow(from.key, key);
            copyRow(from.force, force);
            copyRow(from.struck, struck);
            copyRow(from.leaves, leaves);
            copyRow(from.length, length);
            copyRows(from.code, code);
            texts = from.texts;
            voted = from.voted;
            striking = from.striking;
            copyRow(from.said, said);
        }
    }

    /** GAUGES; floats are held by their eighths, NO NUMBER as NONE. */
    private static final class Gauges {
        private static final int MISSING = -1;
        private final int[] sort = new int[MOST_CELLS];
        private final int[] size = new int[MOST_CELLS];
        private final int[][] row = new int[MOST_CELLS][MOST_PLACES];

        static boolean isFinding(int number) {
            return number <= BAD;
        }

        void forget(int cell) {
            sort[cell] = MISSING;
            size[cell] = 0;
        }

        int begin(int cell, int kind, int n) {
            sort[cell] = kind;
            size[cell] = n;
            Arrays.fill(row[cell], 0);
            return n;
        }

        private boolean hasPlace(int cell, int place) {
            return within(place, 0, size[cell] - 1);
        }

        int put(int cell, int place, int v) {
            if (sort[cell] == MISSING) {
                return NOTHING;
            }
            if (!hasPlace(cell, place)) {
                return INDEX;
            }
            if (sort[cell] == 0 && v == NONE) {
                return KIND;
            }
            if (sort[cell] == 1 && v != NONE && !within(v, -100000, 100000)) {
                return BAD;
            }
            row[cell][place] = sort[cell] == 0 ? (short) v : v;
            return 1;
        }

        int numberAt(int cell, int place) {
            if (sort[cell] == MISSING) {
                return NOTHING;
            }
            if (!hasPlace(cell, place)) {
                return INDEX;
            }
            int number = row[cell][place];
            return number == NONE ? middleAt(cell, place) : number;
        }

        private int middleAt(int cell, int place) {
            if (!hasPlace(cell, place - 1) || !hasPlace(cell, place + 1)) {
                return KIND;
            }
            int below = row[cell][place - 1];
            int above = row[cell][place + 1];
            return below == NONE || above == NONE ? KIND : (below + above) / 2;
        }

        int carry(int from, int place, int to, int at, int many) {
            if (sort[from] == MISSING || sort[to] == MISSING) {
                return NOTHING;
            }
            if (sort[from] != sort[to]) {
                return KIND;
            }
            if (!hasPlaces(from, place, many) || !hasPlaces(to, at, many)) {
                return INDEX;
            }
            System.arraycopy(row[from], place, row[to], at, many);
            return many;
        }

        private boolean hasPlaces(int cell, int from, int many) {
            return within(from, 0, size[cell]) && within(many, 0, size[cell] - from);
        }
    }

    /** What was told for DOUBTS, ROUNDS, THE DARK, SHIPS, LOTS and BUILDS. */
    private static final class Desk {
        final int[][] shown = new int[TESTS][FAULTS];
        /** What a TEST showed; -1 of one that is not TESTED. */
        final int[] seen = new int[TESTS];
        final int[] drops = new int[ROUND_HOURS];
        final int[] taken = new int[LOADS];
        final int[][] harms = new int[DARK_HOURS][LOADS];
        private final int[] orbit = new int[MOST_SHIPS];
        private final int[] begin = new int[MOST_SHIPS];
        private final int[] open = new int[MOST_SHIPS];
        int ships;
        private final int[] mass = new int[MOST_LOTS];
        private final int[] worth = new int[MOST_LOTS];
        int lots;
        final int[] years = new int[MOST_BUILDS];
        final int[] more = new int[MOST_BUILDS];
        final int[] ahead = new int[MOST_BUILDS];
        int builds;

        Desk() {
            Arrays.fill(seen, -1);
        }

        /** As bits. */
        int leftFaults() {
            int left = 0;
            for (int fault = 0; fault < FAULTS; fault++) {
                if (agrees(fault)) {
                    left |= 1 << fault;
                }
            }
            return left;
        }

        private boolean agrees(int fault) {
            for (int test = 0; test < TESTS; test++) {
                if (seen[test] != -1 && seen[test] != shown[test][fault]) {
                    return false;
                }
            }
            return true;
        }

        int nextTest() {
            int left = leftFaults();
            int found = NONE;
            // One that leaves them all alike would part none.
            int least = Integer.bitCount(left);
            for (int test = 0; test < TESTS; test++) {
                int alike = seen[test] == -1 ? mostAlike(test, left) : least;
                if (alike < least) {
                    found = test;
                    least = alike;
                }
            }
            return found;
        }

        private int mostAlike(int test, int left) {
            int most = 0;
            for (int v = 0; v <= 3; v++) {
                int alike = 0;
                for (int fault = 0; fault < FAULTS; fault++) {
                    if ((left >> fault & 1) == 1 && shown[test][fault] == v) {
                        alike++;
                    }
                }
                most = Math.max(most, alike);
            }
            return most;
        }

        int addShip(int around, int first, int wide) {
            int made = ships;
            if (made >= MOST_SHIPS) {
                return FULL;
            }
            orbit[made] = around;
            begin[made] = first;
            open[made] = wide;
            ships = made + 1;
            return made;
        }

        int nextMeeting(int ship, City city) {
            int around = orbit[ship];
            if (around <= 0) {
                return NONE;
            }
            for (int later = 0; later <= 12000; later++) {
                int t = city.minute + later;
                if (Math.floorMod(t - begin[ship], around) < open[ship] && city.isDayAt(city.phase + later)) {
                    return t;
                }
            }
            return NONE;
        }

        int addLot(int heavy, int good) {
            int made = lots;
            if (made >= MOST_LOTS) {
                return FULL;
            }
            mass[made] = heavy;
            worth[made] = good;
            lots = made + 1;
            return made;
        }

        int bestLots(int most) {
            int best = 0;
            int bestWorth = 0;
            int bestMass = 0;
            for (int set = 1; set < 1 << lots; set++) {
                int setMass = sumOf(mass, set);
                int setWorth = sumOf(worth, set);
                boolean better = setWorth > bestWorth || setWorth == bestWorth && setMass < bestMass;
                if (setMass <= most && better) {
                    best = set;
                    bestWorth = setWorth;
                    bestMass = setMass;
                }
            }
            return best;
        }

        private int sumOf(int[] row, int set) {
            int sum = 0;
            for (int lot = 0; lot < lots; lot++) {
                if ((set >> lot & 1) == 1) {
                    sum += row[lot];
                }
            }
            return sum;
        }

        int addBuild(int takesYears, int letsLive, int needs) {
            int made = builds;
            if (made >= MOST_BUILDS) {
                return FULL;
            }
            years[made] = takesYears;
            more[made] = letsLive;
            ahead[made] = needs;
            builds = made + 1;
            return made;
        }

        void becomeAs(Desk from) {
            copyRows(from.shown, shown);
            copyRow(from.seen, seen);
            copyRow(from.drops, drops);
            copyRow(from.taken, taken);
            copyRows(from.harms, harms);
            copyRow(from.orbit, orbit);
            copyRow(from.begin, begin);
            copyRow(from.open, open);
            ships = from.ships;
            copyRow(from.mass, mass);
            copyRow(from.worth, worth);
            lots = from.lots;
            copyRow(from.years, years);
            copyRow(from.more, more);
            copyRow(from.ahead, ahead);
            builds = from.builds;
        }
    }

    /** ROUNDS of patches, gone through HOUR by HOUR. */
    private static final class Rounds {
        /** The first HOUR behind which some SKIN has too few LAYERS, or NONE. */
        int firstLack;
        /** LAYERS sewn to the WORK in the HOUR that were asked about. */
        int sewnThen;
        private final int[] layers = new int[MOST_WORKS];
        private final int[] worn = new int[MOST_WORKS];
        private final int[] falls = new int[MOST_WORKS];
        /** What WORN is more by in all HOURS ahead of one. */
        private final int[] wearAhead = new int[ROUND_HOURS + 1];
        private int hours;
        private int least;

        void goRound(City city, Desk desk, int n, int low, int work, int hour) {
            hours = n;
            least = low;
            firstLack = NONE;
            sewnThen = 0;
            begin(city, desk);
            int fitters = city.people.ableFitters();
            for (int h = 0; h < n; h++) {
                foretellAll(city.works, h);
                for (int f = 0; f < fitters; f++) {
                    int skin = sewNext(city.works, h);
                    if (skin == work && h == hour) {
                        sewnThen++;
                    }
                }
                wearAll(city.works, h);
            }
        }

        private void begin(City city, Desk desk) {
            copyRow(city.works.a, layers);
            copyRow(city.works.worn, worn);
            for (int h = 0; h < hours; h++) {
                wearAhead[h + 1] = wearAhead[h] + 6 * desk.drops[h] / 10;
            }
        }

        private void foretellAll(Works works, int from) {
            for (int work = 0; work < works.many; work++) {
                falls[work] = works.isSkin(work) ? fallOf(work, from) : hours;
            }
        }

        /** The HOUR behind which it is below LEAST if nobody sews any more; none is as the HOUR behind the last. */
        private int fallOf(int skin, int from) {
            int h = from;
            while (h < hours && layers[skin] - (worn[skin] + wearAhead[h + 1] - wearAhead[from]) / 100 >= least) {
                h++;
            }
            return h;
        }

        /** The SKIN to which one FITTER sewed, -1 if to none. */
        private int sewNext(Works works, int from) {
            int found = -1;
            int first = hours;
            for (int work = 0; work < works.many; work++) {
                if (falls[work] < first && layers[work] < MOST_LAYERS) {
                    found = work;
                    first = falls[work];
                }
            }
            if (found >= 0) {
                layers[found]++;
                falls[found] = fallOf(found, from);
            }
            return found;
        }

        private void wearAll(Works works, int hour) {
            for (int work = 0; work < works.many; work++) {
                if (works.isSkin(work)) {
                    int sum = worn[work] + wearAhead[hour + 1] - wearAhead[hour];
                    layers[work] -= sum / 100;
                    worn[work] = sum % 100;
                    if (layers[work] < least && firstLack == NONE) {
                        firstLack = hour;
                    }
                }
            }
        }
    }

    /** POWER THROUGH THE DARK, worked out from the last HOUR to the first for every BANK. */
    private static final class Dark {
        /** HARM of the LOADS from an HOUR on, by THE BANK then; NONE if there are none. */
        private final int[] harm = new int[MOST_BANK + 1];
        /** These LOADS, two bits each, that of the HOUR itself lowest. */
        private final long[] chosen = new long[MOST_BANK + 1];

        int leastHarm(Desk desk, int n, int bank) {
            for (int left = 0; left <= bank; left++) {
                harm[left] = 0;
                chosen[left] = 0;
            }
            for (int hour = n - 1; hour >= 0; hour--) {
                // From the greatest on, as each is worked out by lesser ones of the HOUR behind.
                for (int left = bank; left >= 0; left--) {
                    choose(desk, hour, left);
                }
            }
            return harm[bank];
        }

        private void choose(Desk desk, int hour, int left) {
            int best = NONE;
            long row = 0;
            for (int load = 0; load < LOADS; load++) {
                int then = left - desk.taken[load];
                if (then >= 0 && harm[then] != NONE) {
                    int sum = harm[then] + desk.harms[hour][load];
                    if (best == NONE || sum < best) {
                        best = sum;
                        row = chosen[then] << 2 | load;
                    }
                }
            }
            harm[left] = best;
            chosen[left] = row;
        }

        int loadAt(int bank, int hour) {
            return (int) (chosen[bank] >> 2 * hour & 3);
        }
    }

    /** THE ORDER of BUILDS, sought by putting each that may come next. */
    private static final class Order {
        final int[] best = new int[MOST_BUILDS];
        private final int[] row = new int[MOST_BUILDS];
        private int span;
        private int triesLeft;
        private int most;

        /** SPENT, NO, or the sum; then its BUILDS stand in order. */
        int bestSum(Desk desk, int years, int tries) {
            span = years;
            triesLeft = tries;
            most = NO;
            goOn(desk, 0, 0, 0, 0);
            return triesLeft < 0 ? SPENT : most;
        }

        private void goOn(Desk desk, int depth, int done, int year, int sum) {
            if (depth >= desk.builds || depth >= MOST_BUILDS) {
                take(sum);
                return;
            }
            for (int next = 0; next < desk.builds && triesLeft >= 0; next++) {
                if ((done >> next & 1) == 0 && (desk.ahead[next] & ~done) == 0) {
                    triesLeft--;
                    row[depth] = next;
                    int end = year + desk.years[next];
                    int more = desk.more[next] * Math.max(0, span - end);
                    if (triesLeft >= 0) {
                        goOn(desk, depth + 1, done | 1 << next, end, sum + more);
                    }
                }
            }
        }

        private void take(int sum) {
            if (most == NO || sum > most) {
                most = sum;
                copyRow(row, best);
            }
        }
    }
}
