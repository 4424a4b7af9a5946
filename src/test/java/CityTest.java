/** Promises 1 to 20: the city and its minutes. */
public final class CityTest {
    private static final int BAD = AcidCity.BAD, NO = AcidCity.NO, FULL = AcidCity.FULL, NONE = AcidCity.NONE,
            KIND = AcidCity.KIND;
    private static final Due d = new Due();

    public static void main(String[] args) {
        newObject();
        cells();
        air();
        told();
        locks();
        turns();
        stores();
        gives();
        works();
        has();
        as();
        tunes();
        cleans();
        sews();
        drops();
        depths();
        tables();
        sets();
        cities();
        runs();
        flows();
        holes();
        breath();
        gardens();
        stillsAndRotors();
        patches();
        skins();
        probes();
        heights();
        fouling();
        overflow();
        d.end();
    }

    private static void newObject() {
        AcidCity x = new AcidCity();
        for (int what = 0; what <= 14; what++) {
            d.eq("new count(" + what + ")", x.count(what), 0);
        }
        int[] due = {300, 30, 0, 0, 1, 0, 0, 0, 0, 0, 0, 0, 0, 0};
        for (int what = 0; what < due.length; what++) {
            d.eq("new city(" + what + ")", x.city(what), due[what]);
        }
        for (int l = 0; l <= 60; l++) {
            d.eq("DENSE at first", x.table(0, l, 0), 900 - 12 * l);
            d.eq("HEAT at first", x.table(1, l, 0), 600 - 10 * l);
            d.eq("DROPS at first", x.table(2, l, 0), 60 - l);
        }
        d.eq("ROUND at first", x.set(2, 2), 5760);
        d.eq("LATE at first", x.set(3, 0), 10);
        d.eq("no image", x.back(), NO);
    }

    private static void cells() {
        AcidCity x = new AcidCity();
        d.eq("cell(0)", x.cell(0), BAD);
        d.eq("cell(1000)", x.cell(1000), BAD);
        d.eq("cell(1)", x.cell(1), 0);
        d.eq("cell(999)", x.cell(999), 1);
        d.eq("VOLUME", x.told(1, 6), 999);
        for (int i = 2; i < 20; i++) {
            d.eq("cell", x.cell(5), i);
        }
        d.eq("the 21st", x.cell(5), FULL);
        d.eq("BAD ahead of FULL", x.cell(0), BAD);
        d.eq("CELLS", x.count(0), 20);
    }

    private static void air() {
        AcidCity x = new AcidCity();
        d.eq("no such CELL", x.air(0, 0, 1), BAD);
        x.cell(5);
        d.eq("CELL -1", x.air(-1, 0, 1), BAD);
        d.eq("gas -1", x.air(0, -1, 1), BAD);
        d.eq("gas 6", x.air(0, 6, 1), BAD);
        for (int gas = 0; gas <= 4; gas++) {
            d.eq("above", x.air(0, gas, 1000000), BAD);
            d.eq("below", x.air(0, gas, -1), BAD);
            d.eq("air", x.air(0, gas, 999999), 0);
            d.eq("what it was", x.air(0, gas, 10 + gas), 999999);
        }
        for (int gas = 0; gas <= 4; gas++) {
            d.eq("told", x.told(0, gas), 10 + gas);
        }
        d.eq("HOLE 100", x.air(0, 5, 100), BAD);
        d.eq("HOLE -1", x.air(0, 5, -1), BAD);
        d.eq("HOLE 99", x.air(0, 5, 99), 0);
        d.eq("HOLE was", x.air(0, 5, 0), 99);
    }

    private static void told() {
        AcidCity x = new AcidCity();
        x.cell(5);
        x.cell(7);
        d.eq("what 9", x.told(0, 9), BAD);
        d.eq("what -1", x.told(0, -1), BAD);
        d.eq("what 15", x.told(0, 15), BAD);
        d.eq("CELL 2", x.told(2, 0), BAD);
        x.air(0, 5, 10);
        d.eq("HOLE", x.told(0, 5), 10);
        d.eq("VOLUME", x.told(1, 6), 7);
        x.person(20, 0, 1);
        x.person(20, 0, 1);
        x.be(1, 3, 100);
        d.eq("PEOPLE not DEAD", x.told(1, 7), 1);
        d.eq("PEOPLE elsewhere", x.told(0, 7), 0);
        x.work(0, 1, 9, 0, 0);
        x.work(0, 1, 8, 0, 0);
        x.shed();
        d.eq("WORKS not GONE", x.told(1, 8), 1);
        d.eq("WORKS elsewhere", x.told(0, 8), 0);
        for (int gas = 0; gas <= 4; gas++) {
            x.air(0, gas, 1000 * (gas + 1));
        }
        x.run(1);
        for (int gas = 0; gas <= 4; gas++) {
            d.eq("OUT", x.told(0, 10 + gas), 10 * (gas + 1));
            d.eq("not OUT there", x.told(1, 10 + gas), 0);
        }
    }

    private static void locks() {
        AcidCity x = new AcidCity();
        d.eq("no CELLS", x.lock(0, 1, 1), BAD);
        x.cell(5);
        x.cell(5);
        d.eq("itself", x.lock(1, 1, 1), BAD);
        d.eq("no such", x.lock(0, 2, 1), BAD);
        d.eq("no such", x.lock(-1, 1, 1), BAD);
        d.eq("WIDTH 0", x.lock(0, 1, 0), BAD);
        d.eq("WIDTH 10", x.lock(0, 1, 10), BAD);
        for (int i = 0; i < 24; i++) {
            d.eq("lock", x.lock(i % 2, 1 - i % 2, 1 + i % 9), i);
        }
        d.eq("the 25th", x.lock(0, 1, 1), FULL);
        d.eq("BAD first", x.lock(0, 0, 1), BAD);
        d.eq("LOCKS", x.count(1), 24);
        x.person(20, 0, 0);
        d.eq("shut at first", x.turn(23, 0, 1), 0);
    }

    private static void turns() {
        AcidCity x = new AcidCity();
        x.cell(5);
        x.cell(5);
        x.lock(0, 1, 1);
        x.lock(0, 1, 1);
        d.eq("nobody", x.turn(0, 0, 1), BAD);
        x.person(20, 1, 0);
        x.person(20, 2, 0);
        d.eq("no such LOCK", x.turn(2, 0, 1), BAD);
        d.eq("LOCK -1", x.turn(-1, 0, 1), BAD);
        d.eq("on 2", x.turn(0, 0, 2), BAD);
        d.eq("on -1", x.turn(0, 0, -1), BAD);
        d.eq("open", x.turn(0, 0, 1), 0);
        d.eq("shut", x.turn(0, 1, 0), 1);
        d.eq("shut still", x.turn(0, 1, 0), 0);
        x.air(0, 0, 9999);
        Say.law(x, "open c = 1 & n = 1");
        d.eq("may not open 0", x.turn(0, 0, 1), NO);
        d.eq("may open 1", x.turn(1, 0, 1), 0);
        d.eq("another may not", x.turn(1, 1, 0), NO);
        d.eq("it was open", x.turn(1, 0, 1), 1);
        x.be(0, 3, 100);
        d.eq("DEAD", x.turn(1, 0, 0), NO);
        d.eq("BAD ahead of NO", x.turn(1, 0, 5), BAD);
    }

    private static void stores() {
        AcidCity x = new AcidCity();
        for (int k = 0; k <= 5; k++) {
            d.eq("store", x.store(k, 999999), 0);
            d.eq("store was", x.store(k, k + 3), 999999);
            d.eq("city tells", x.city(8 + k), k + 3);
            d.eq("above", x.store(k, 1000000), BAD);
            d.eq("below", x.store(k, -1), BAD);
            d.eq("to 0", x.store(k, 0), k + 3);
        }
        d.eq("STORE 6", x.store(6, 0), BAD);
        d.eq("STORE -1", x.store(-1, 0), BAD);
    }

    private static void gives() {
        AcidCity x = new AcidCity();
        x.cell(5);
        for (int k = 0; k <= 5; k++) {
            x.store(k, 999999);
            int gas = k == 5 ? 4 : k;
            if (k == 4) {
                d.eq("CLOTH is no GAS", x.give(4, 0, 1), BAD);
            } else {
                d.eq("give 0", x.give(k, 0, 0), BAD);
                d.eq("give too much", x.give(k, 0, 1000000), BAD);
                d.eq("give 1", x.give(k, 0, 1), 999998);
                d.eq("give", x.give(k, 0, 9), 999989);
                d.eq("give more than is there", x.give(k, 0, 999990), NO);
                d.eq("give all but it would be above", x.air(0, gas, 11), 10);
                d.eq("above", x.give(k, 0, 999989), NO);
                x.air(0, gas, 10);
                d.eq("just not above", x.give(k, 0, 999989), 0);
                d.eq("air has it", x.told(0, gas), 999999);
            }
        }
        d.eq("STORE 6", x.give(6, 0, 1), BAD);
        d.eq("STORE -1", x.give(-1, 0, 1), BAD);
        d.eq("CELL 1", x.give(0, 1, 1), BAD);
    }

    private static void works() {
        AcidCity x = new AcidCity();
        d.eq("no CELL", x.work(0, 0, 1, 0, 0), BAD);
        x.cell(5);
        int[][] bad = {
            {7, 0, 1, 0, 0}, {-1, 0, 1, 0, 0}, {0, 1, 1, 0, 0}, {0, 0, 0, 0, 0}, {0, 0, 10000, 0, 0},
            {0, 0, 1, 1, 0}, {0, 0, 1, 0, 1}, {1, 0, 1, 0, 0}, {1, 0, 1, 10, 0}, {1, 0, 1, 1, -1}, {1, 0, 1, 1, 100000},
            {2, 0, 1, 0, 0}, {2, 0, 1, 100, 0}, {2, 0, 1, 1, 1}, {3, 0, 1, 0, 0}, {3, 0, 1, 100, 0}, {3, 0, 1, 1, 1},
            {4, 0, 1, 0, 0}, {4, 0, 1, 100, 0}, {4, 0, 1, 1, 1}, {5, 0, 1, 0, 1}, {5, 0, 1, -1, 1},
            {6, 0, 1, 0, 0}, {6, 0, 1, 100000, 0}, {6, 0, 1, 1, 1}};
        for (int[] b : bad) {
            d.eq("work " + java.util.Arrays.toString(b), x.work(b[0], b[1], b[2], b[3], b[4]), BAD);
        }
        d.eq("WORK", x.work(0, 0, 1, 0, 0), 0);
        d.eq("SKIN", x.work(1, 0, 9999, 1, 0), 1);
        d.eq("SKIN", x.work(1, 0, 1, 9, 99999), 2);
        d.eq("GARDEN", x.work(2, 0, 1, 1, 0), 3);
        d.eq("STILL", x.work(3, 0, 1, 99, 0), 4);
        d.eq("ROTOR", x.work(4, 0, 1, 99, 0), 5);
        d.eq("PATCH on no SKIN", x.work(5, 0, 1, 0, 5), BAD);
        d.eq("PATCH for 0", x.work(5, 0, 1, 2, 0), BAD);
        d.eq("PATCH for 10000", x.work(5, 0, 1, 2, 10000), BAD);
        d.eq("PATCH", x.work(5, 0, 1, 2, 9999), 6);
        d.eq("PATCH on a PATCH", x.work(5, 0, 1, 6, 5), BAD);
        d.eq("PATCH on none", x.work(5, 0, 1, 7, 5), BAD);
        d.eq("PROBE", x.work(6, 0, 1, 99999, 0), 7);
        for (int i = 8; i < 24; i++) {
            d.eq("more", x.work(0, 0, 1, 0, 0), i);
        }
        d.eq("the 25th", x.work(0, 0, 1, 0, 0), FULL);
        d.eq("PATCH on none", x.work(5, 0, 1, 24, 5), BAD);
        d.eq("PATCH on none", x.work(5, 0, 1, 25, 5), BAD);
        d.eq("PATCH on none", x.work(5, 0, 1, Integer.MAX_VALUE, 5), BAD);
        d.eq("BAD first", x.work(0, 0, 0, 0, 0), BAD);
        d.eq("WORKS", x.count(2), 24);
    }

    private static void has() {
        AcidCity x = new AcidCity();
        x.cell(5);
        x.cell(6);
        d.eq("no WORK", x.has(0, 0), BAD);
        x.work(1, 1, 50, 3, 77);
        int[] due = {1, 1, 50, 1, 0, 3, 77, 0, 0, NONE, 0};
        for (int what = 0; what < due.length; what++) {
            d.eq("has " + what, x.has(0, what), due[what]);
        }
        d.eq("what 11", x.has(0, 11), BAD);
        d.eq("what -1", x.has(0, -1), BAD);
        d.eq("WORK 1", x.has(1, 0), BAD);
        d.eq("WORK -1", x.has(-1, 0), BAD);
        x.tune(0, 0, 0);
        d.eq("off", x.has(0, 3), 0);
        x.shed();
        d.eq("GONE", x.has(0, 8), 1);
        d.eq("its GAS is OUT", x.has(0, 6), 0);
        d.eq("OUT as CARRIER", x.told(1, 11), 77);
    }

    private static void as() {
        AcidCity x = new AcidCity();
        x.cell(5);
        x.work(0, 0, 1, 0, 0);
        x.work(1, 0, 1, 4, 5);
        x.work(2, 0, 1, 11, 0);
        x.work(3, 0, 1, 12, 0);
        x.work(4, 0, 1, 13, 0);
        x.work(5, 0, 1, 1, 6);
        x.work(6, 0, 1, 14, 0);
        int[] a = {0, 4, 11, 12, 13, 1, 14};
        for (int work = 0; work <= 6; work++) {
            for (int kind = 0; kind <= 6; kind++) {
                boolean is = kind == 0 || kind == work || kind == 3 && work == 4 || kind == 1 && work == 5;
                d.eq("as(" + work + ", " + kind + ")", x.as(work, kind), is ? a[work] : KIND);
            }
            d.eq("kind 7", x.as(work, 7), BAD);
            d.eq("kind -1", x.as(work, -1), BAD);
        }
        d.eq("WORK 7", x.as(7, 0), BAD);
        d.eq("WORK -1", x.as(-1, 0), BAD);
    }

    private static void tunes() {
        AcidCity x = new AcidCity();
        x.cell(5);
        x.work(0, 0, 1, 0, 0);
        d.eq("off", x.tune(0, 0, 0), 1);
        d.eq("on", x.tune(0, 0, 1), 0);
        d.eq("on 2", x.tune(0, 0, 2), BAD);
        d.eq("on -1", x.tune(0, 0, -1), BAD);
        d.eq("FOULING", x.tune(0, 1, 99), 0);
        d.eq("FOULING was", x.tune(0, 1, 0), 99);
        d.eq("FOULING 100", x.tune(0, 1, 100), BAD);
        d.eq("FOULING -1", x.tune(0, 1, -1), BAD);
        d.eq("what 2", x.tune(0, 2, 0), BAD);
        d.eq("what -1", x.tune(0, -1, 0), BAD);
        d.eq("WORK 1", x.tune(1, 0, 0), BAD);
        x.shed();
        d.eq("GONE", x.tune(0, 0, 0), NO);
        d.eq("GONE", x.tune(0, 1, 1), NO);
        d.eq("BAD first", x.tune(0, 0, 2), BAD);
        d.eq("still on", x.has(0, 3), 1);
    }

    private static void cleans() {
        AcidCity x = new AcidCity();
        x.cell(5);
        d.eq("no WORK", x.clean(0), BAD);
        x.work(0, 0, 1, 0, 0);
        x.tune(0, 1, 50);
        x.run(5);
        d.eq("FOUL", x.has(0, 4), 2);
        d.eq("clean", x.clean(0), 2);
        d.eq("clean again", x.clean(0), 0);
        x.run(1);
        d.eq("the hidden sum goes on", x.has(0, 4), 1);
        x.shed();
        d.eq("GONE", x.clean(0), NO);
        d.eq("WORK -1", x.clean(-1), BAD);
    }

    private static void sews() {
        AcidCity x = new AcidCity();
        x.cell(5);
        d.eq("no WORK", x.sew(0), BAD);
        x.work(1, 0, 9, 7, 0);
        x.work(5, 0, 8, 0, 5);
        x.work(2, 0, 8, 5, 0);
        d.eq("no CLOTH", x.sew(0), NO);
        d.eq("KIND ahead of NO", x.sew(1), KIND);
        x.store(4, 3);
        d.eq("PATCH", x.sew(1), KIND);
        d.eq("GARDEN", x.sew(2), KIND);
        d.eq("sew", x.sew(0), 8);
        d.eq("sew", x.sew(0), 9);
        d.eq("has 9", x.sew(0), NO);
        d.eq("CLOTH", x.city(12), 1);
        d.eq("LAYERS", x.has(0, 5), 9);
        x.shed();
        d.eq("GONE", x.sew(0), NO);
        d.eq("WORK 3", x.sew(3), BAD);
    }

    private static void drops() {
        AcidCity x = new AcidCity();
        x.cell(5);
        d.eq("no WORK", x.drop(0), BAD);
        x.work(6, 0, 20, 99999, 0);
        x.work(0, 0, 1, 0, 0);
        x.work(6, 0, 30, 9, 0);
        d.eq("KIND", x.drop(1), KIND);
        d.eq("-1", x.drop(-1), BAD);
        d.eq("it weighs", x.city(3), 51);
        d.eq("drop", x.drop(0), 30);
        d.eq("its LEVEL", x.has(0, 9), 30);
        d.eq("it weighs no more", x.city(3), 31);
        d.eq("twice", x.drop(0), NO);
        x.shed();
        d.eq("GONE", x.drop(2), NO);
    }

    private static void depths() {
        AcidCity x = new AcidCity();
        x.cell(5);
        d.eq("no WORK", x.depth(0), BAD);
        x.work(6, 0, 20, 309, 0);
        x.work(6, 0, 20, 310, 0);
        x.work(6, 0, 20, 99999, 0);
        x.work(1, 0, 20, 1, 0);
        d.eq("309: 310 at LEVEL 29", x.depth(0), 1);
        d.eq("310: 310, then 630", x.depth(1), 2);
        // 310 .. 600 by tens is 30 MINUTES and 13650; then 600 each: (99999 - 13650) / 600 = 143 and one more.
        d.eq("99999", x.depth(2), 174);
        d.eq("KIND", x.depth(3), KIND);
        x.set(0, 0);
        d.eq("from LEVEL 0", x.depth(2), 167);
        x.table(1, 0, 0);
        d.eq("never", x.depth(0), 1000);
        x.table(1, 0, 100);
        d.eq("999 times 100 is not above 99999, 1000 times is", x.depth(2), 1000);
        x.table(1, 0, 101);
        d.eq("991 times 101 is", x.depth(2), 991);
        d.eq("nothing was dropped", x.has(2, 9), NONE);
        x.drop(2);
        d.eq("dropped", x.depth(2), NO);
        x.shed();
        d.eq("GONE", x.depth(0), NO);
    }

    private static void tables() {
        AcidCity x = new AcidCity();
        d.eq("table 3", x.table(3, 0, 0), BAD);
        d.eq("table -1", x.table(-1, 0, 0), BAD);
        d.eq("LEVEL 61", x.table(0, 61, 0), BAD);
        d.eq("LEVEL -1", x.table(0, -1, 0), BAD);
        d.eq("10000", x.table(0, 0, 10000), BAD);
        d.eq("-1", x.table(0, 0, -1), BAD);
        d.eq("table", x.table(2, 60, 9999), 0);
        d.eq("table was", x.table(2, 60, 0), 9999);
    }

    private static void sets() {
        AcidCity x = new AcidCity();
        int[] low = {0, 0, 2, 0};
        int[] high = {600, 99999, 9999, 99};
        int[] first = {300, 0, 5760, 10};
        for (int what = 0; what <= 3; what++) {
            d.eq("below", x.set(what, low[what] - 1), BAD);
            d.eq("above", x.set(what, high[what] + 1), BAD);
            d.eq("set", x.set(what, high[what]), first[what]);
            d.eq("set was", x.set(what, low[what]), high[what]);
        }
        d.eq("set 4", x.set(4, 5), BAD);
        d.eq("set -1", x.set(-1, 5), BAD);
    }

    private static void cities() {
        AcidCity x = new AcidCity();
        d.eq("14", x.city(14), BAD);
        d.eq("-1", x.city(-1), BAD);
        x.set(0, 599);
        d.eq("HEIGHT", x.city(0), 599);
        d.eq("LEVEL", x.city(1), 59);
        x.set(2, 5);
        int[] day = {1, 1, 0, 0, 0, 1, 1, 0};
        for (int phase = 0; phase < day.length; phase++) {
            x.set(1, phase);
            d.eq("DAY at " + phase, x.city(4), day[phase]);
            d.eq("PHASE", x.city(5), phase);
        }
        x.cell(9);
        x.set(0, 300);
        x.work(1, 0, 7, 1, 33);
        x.work(1, 0, 8, 1, 33);
        d.eq("LIFT, each cut: 33 times 540 / 100", x.city(2), 178 + 178);
        x.store(5, 5000);
        x.air(0, 4, 5000);
        d.eq("WEIGHT without POWER, WARMTH", x.city(3), 15);
        x.air(0, 0, 150);
        x.store(4, 149);
        d.eq("WEIGHT together a hundredth", x.city(3), 17);
        x.store(0, 1);
        d.eq("WEIGHT", x.city(3), 18);
        x.person(3, 0, 0);
        x.person(30, 0, 0);
        d.eq("WEIGHT of two", x.city(3), 138);
        x.be(0, 3, 100);
        d.eq("WEIGHT of one", x.city(3), 78);
        x.shed();
        d.eq("LIFT of one", x.city(2), 178);
        d.eq("WEIGHT", x.city(3), 70);
        d.eq("OUT", x.city(7), 33);
    }

    private static void runs() {
        AcidCity x = new AcidCity();
        d.eq("0", x.run(0), BAD);
        d.eq("-1", x.run(-1), BAD);
        d.eq("121", x.run(121), BAD);
        d.eq("1", x.run(1), 1);
        for (int i = 0; i < 166; i++) {
            x.run(120);
        }
        d.eq("19921", x.city(6), 19921);
        d.eq("FULL", x.run(80), FULL);
        d.eq("PHASE", x.city(5), 19921);
        d.eq("79", x.run(79), 20000);
        d.eq("FULL", x.run(1), FULL);
        d.eq("BAD first", x.run(0), BAD);
    }

    private static void flows() {
        AcidCity x = new AcidCity();
        x.cell(10);
        x.cell(30);
        x.lock(0, 1, 9);
        x.person(30, 0, 0);
        x.turn(0, 0, 1);
        x.be(0, 3, 100);
        x.air(0, 1, 100);
        x.air(1, 2, 100);
        x.air(0, 4, 7);
        x.run(1);
        d.eq("75, of it 67", x.told(1, 1), 67);
        d.eq("left", x.told(0, 1), 33);
        d.eq("back: 25, of it 22", x.told(0, 2), 22);
        d.eq("left", x.told(1, 2), 78);
        d.eq("WARMTH: 5, of it 4", x.told(1, 4), 4);
        x.be(0, 3, 0);
        x.turn(0, 0, 0);
        x.be(0, 3, 100);
        x.run(1);
        d.eq("shut", x.told(1, 1), 67);
        AcidCity y = new AcidCity();
        y.cell(1);
        y.cell(1);
        y.cell(1);
        y.lock(1, 2, 9);
        y.lock(0, 1, 9);
        y.person(30, 0, 0);
        y.turn(0, 0, 1);
        y.turn(1, 0, 1);
        y.be(0, 3, 100);
        y.air(0, 3, 100);
        y.run(1);
        d.eq("LOCKS by number", y.told(2, 3), 0);
        d.eq("45 of 50", y.told(1, 3), 45);
    }

    private static void holes() {
        AcidCity x = new AcidCity();
        x.cell(10);
        x.air(0, 5, 99);
        x.air(0, 0, 999999);
        x.air(0, 4, 10);
        x.run(1);
        d.eq("OUT", x.told(0, 10), 98999);
        d.eq("left", x.told(0, 0), 901000);
        d.eq("WARMTH cut", x.told(0, 4), 10);
        x.air(0, 4, 11);
        x.run(1);
        d.eq("WARMTH OUT", x.told(0, 14), 1);
        d.eq("WARMTH is not in all OUT", x.city(7), 98999 + 89199);
    }

    private static void breath() {
        AcidCity x = new AcidCity();
        x.cell(10);
        x.person(11, 0, 0);
        x.person(12, 0, 0);
        x.air(0, 0, 2);
        x.be(0, 3, 10);
        x.be(1, 3, 10);
        x.run(1);
        d.eq("OXYGEN", x.told(0, 0), 0);
        d.eq("CARRIER", x.told(0, 1), 0);
        d.eq("VAPOUR", x.told(0, 2), 2);
        d.eq("had 1 of 1", x.is(0, 3), 9);
        d.eq("had 1 of 2", x.is(1, 3), 15);
        x.air(0, 3, 10);
        x.air(0, 0, 1000);
        x.run(1);
        d.eq("ACID not above VOLUME", x.is(0, 3), 8);
        x.air(0, 3, 11);
        x.run(1);
        d.eq("ACID above it", x.is(0, 3), 11);
        x.air(0, 0, 0);
        x.run(1);
        d.eq("both", x.is(0, 3), 19);
        x.be(0, 3, 93);
        x.run(1);
        d.eq("100 at most", x.is(0, 3), 100);
        d.eq("DEAD", x.is(0, 4), 1);
        x.air(0, 0, 1000);
        x.air(0, 3, 0);
        x.be(1, 3, 0);
        x.run(1);
        d.eq("the DEAD do not breathe", x.told(0, 0), 998);
        d.eq("the DEAD stay so", x.is(0, 3), 100);
        d.eq("0 at least", x.is(1, 3), 0);
        d.eq("CARRIER of three full breaths", x.told(0, 1), 3);
    }

    private static void gardens() {
        AcidCity x = new AcidCity();
        x.cell(10);
        x.work(2, 0, 9, 9, 0);
        x.air(0, 2, 1000);
        x.set(2, 4);
        x.run(1);
        d.eq("by DAY", x.told(0, 0), 9);
        x.run(1);
        d.eq("by DAY", x.told(0, 0), 18);
        x.run(2);
        d.eq("in the DARK none", x.told(0, 0), 18);
        x.tune(0, 1, 99);
        x.set(2, 9999);
        x.set(1, 0);
        x.run(2);
        d.eq("not FOUL yet", x.told(0, 0), 36);
        x.run(1);
        d.eq("9 times 99 / 100", x.told(0, 0), 44);
        x.tune(0, 0, 0);
        x.run(1);
        d.eq("off", x.told(0, 0), 44);
        x.tune(0, 0, 1);
        x.air(0, 2, 3);
        x.run(1);
        d.eq("as much as there is", x.told(0, 0), 47);
        d.eq("VAPOUR", x.told(0, 2), 0);
        x.air(0, 2, 3);
        x.shed();
        x.run(1);
        d.eq("GONE", x.told(0, 0), 47);
    }

    private static void stillsAndRotors() {
        AcidCity x = new AcidCity();
        x.cell(10);
        x.work(3, 0, 9, 7, 0);
        x.air(0, 3, 10);
        x.run(1);
        d.eq("no POWER", x.told(0, 3), 10);
        x.store(5, 3);
        x.run(1);
        d.eq("ACID", x.told(0, 3), 3);
        d.eq("VAPOUR half", x.told(0, 2), 3);
        d.eq("CARRIER rest", x.told(0, 1), 4);
        x.run(1);
        d.eq("ACID", x.told(0, 3), 0);
        d.eq("VAPOUR", x.told(0, 2), 4);
        d.eq("CARRIER", x.told(0, 1), 6);
        x.run(1);
        d.eq("POWER goes without ACID", x.city(13), 0);
        AcidCity y = new AcidCity();
        y.cell(10);
        y.work(4, 0, 9, 3, 0);
        y.work(4, 0, 9, 2, 0);
        y.air(0, 3, 10);
        y.store(5, 4);
        y.run(1);
        d.eq("the first took 3, the other had not enough", y.city(13), 1);
        d.eq("PHASE", y.city(5), 2);
        d.eq("a ROTOR stills nothing", y.told(0, 3), 10);
        // By PHASE as it is then: a ROTOR ahead of a GARDEN turns DAY to DARK.
        AcidCity z = new AcidCity();
        z.cell(10);
        z.work(2, 0, 9, 1, 0);
        z.work(4, 0, 9, 1, 0);
        z.work(2, 0, 9, 1, 0);
        z.store(5, 1);
        z.air(0, 2, 10);
        z.set(2, 2);
        z.run(1);
        d.eq("only the first GARDEN", z.told(0, 0), 1);
    }

    private static void patches() {
        AcidCity x = new AcidCity();
        x.cell(10);
        x.work(1, 0, 9, 1, 100);
        x.work(5, 0, 9, 0, 2);
        x.table(2, 30, 50);
        x.table(2, 29, 50);
        x.table(2, 31, 50);
        x.tune(1, 0, 0);
        x.run(1);
        d.eq("an off PATCH is none", x.has(0, 7), 5);
        d.eq("and holds on", x.has(1, 6), 2);
        x.tune(1, 0, 1);
        x.run(1);
        d.eq("patched", x.has(0, 7), 5);
        d.eq("a MINUTE less", x.has(1, 6), 1);
        d.eq("not GONE", x.has(1, 8), 0);
        x.run(1);
        d.eq("patched still", x.has(0, 7), 5);
        d.eq("it let go", x.has(1, 8), 1);
        x.set(0, 300);
        x.run(1);
        d.eq("worn", x.has(0, 7), 10);
    }

    private static void skins() {
        AcidCity x = new AcidCity();
        x.cell(10);
        x.cell(10);
        x.work(1, 1, 1, 2, 1000);
        for (int l = 0; l <= 60; l++) {
            x.table(0, l, 0);
            x.table(2, l, 999);
        }
        x.run(1);
        d.eq("99", x.has(0, 7), 99);
        d.eq("2 LAYERS", x.has(0, 5), 2);
        x.run(1);
        d.eq("198", x.has(0, 7), 98);
        d.eq("1 LAYER", x.has(0, 5), 1);
        d.eq("no loss", x.has(0, 6), 1000);
        x.run(1);
        d.eq("197", x.has(0, 7), 97);
        d.eq("no LAYER", x.has(0, 5), 0);
        d.eq("1 and 1000 / 50 lost by then", x.has(0, 6), 979);
        d.eq("OUT by its CELL", x.told(1, 11), 21);
        x.run(1);
        d.eq("99 at most", x.has(0, 7), 99);
        d.eq("1 and 979 / 50", x.has(0, 6), 959);
        x.store(4, 1);
        x.sew(0);
        x.run(1);
        d.eq("the new one is taken", x.has(0, 5), 0);
        d.eq("198 less 100", x.has(0, 7), 98);
        x.tune(0, 0, 0);
        int gas = x.has(0, 6);
        x.run(1);
        d.eq("off: nothing", x.has(0, 6), gas);
        AcidCity y = new AcidCity();
        y.cell(10);
        y.work(1, 0, 1, 1, 1);
        y.work(1, 0, 1, 1, 0);
        y.work(1, 0, 1, 9, 50);
        for (int l = 0; l <= 60; l++) {
            y.table(2, l, 9999);
        }
        y.run(1);
        d.eq("as much as there is", y.has(0, 6), 0);
        d.eq("nothing there", y.has(1, 6), 0);
        d.eq("9 LAYERS at once", y.has(2, 5), 0);
        d.eq("99 left", y.has(2, 7), 99);
        d.eq("1 and 1", y.has(2, 6), 48);
        d.eq("OUT", y.told(0, 11), 3);
        AcidCity z = new AcidCity();
        z.cell(10);
        z.work(1, 0, 1, 1, 99);
        for (int l = 0; l <= 60; l++) {
            z.table(2, l, 1009);
        }
        z.run(1);
        d.eq("100 is a LAYER", z.has(0, 5), 0);
        d.eq("100 less 100", z.has(0, 7), 0);
        d.eq("1 and 99 / 50", z.has(0, 6), 97);
    }

    private static void probes() {
        AcidCity x = new AcidCity();
        x.cell(10);
        x.work(6, 0, 1, 1200, 0);
        x.set(0, 15);
        x.table(1, 0, 600);
        d.eq("drop", x.drop(0), 1);
        x.tune(0, 0, 0);
        x.run(1);
        d.eq("off: it does not fall", x.has(0, 9), 1);
        x.tune(0, 0, 1);
        x.run(1);
        d.eq("a LEVEL", x.has(0, 9), 0);
        d.eq("HEAT", x.has(0, 10), 600);
        x.run(1);
        d.eq("from LEVEL 0 none", x.has(0, 9), 0);
        d.eq("not above", x.has(0, 8), 0);
        d.eq("HEAT", x.has(0, 10), 1200);
        x.run(1);
        d.eq("lost", x.has(0, 8), 1);
        x.run(1);
        d.eq("it takes no more", x.has(0, 10), 1800);
        AcidCity y = new AcidCity();
        y.cell(10);
        y.work(6, 0, 1, 1, 0);
        y.run(5);
        d.eq("not dropped: nothing", y.has(0, 10), 0);
    }

    private static void heights() {
        AcidCity x = new AcidCity();
        x.cell(10);
        x.work(0, 0, 19, 0, 0);
        x.run(1);
        d.eq("-19 / 10", x.city(0), 299);
        x.work(0, 0, 9000, 0, 0);
        x.run(1);
        d.eq("-9", x.city(0), 290);
        x.set(0, 5);
        x.run(1);
        d.eq("0 at least", x.city(0), 0);
        x.work(1, 0, 1, 9, 99999);
        x.set(0, 593);
        x.run(1);
        d.eq("600 at most", x.city(0), 600);
        x.run(1);
        d.eq("600", x.city(0), 600);
        // The DEAD of that MINUTE weigh nothing in it.
        AcidCity y = new AcidCity();
        y.cell(10);
        y.person(30, 0, 0);
        y.be(0, 3, 95);
        y.run(1);
        d.eq("DEAD ahead of (f)", y.city(0), 300);
        y.be(0, 3, 0);
        y.run(1);
        d.eq("-60 / 10", y.city(0), 294);
    }

    private static void fouling() {
        AcidCity x = new AcidCity();
        x.cell(10);
        x.work(0, 0, 1, 0, 0);
        x.work(0, 0, 2, 0, 0);
        x.tune(0, 1, 99);
        x.tune(0, 0, 0);
        x.tune(1, 1, 99);
        x.shed();
        x.run(1);
        d.eq("99", x.has(0, 4), 0);
        x.run(1);
        d.eq("198", x.has(0, 4), 1);
        x.run(100);
        d.eq("102 times 99 is 10098", x.has(0, 4), 100);
        x.run(50);
        d.eq("100 at most", x.has(0, 4), 100);
        d.eq("GONE", x.has(1, 4), 0);
    }

    private static void overflow() {
        AcidCity x = new AcidCity();
        x.cell(1);
        x.cell(999);
        x.lock(0, 1, 9);
        x.person(30, 0, 0);
        x.turn(0, 0, 1);
        x.be(0, 3, 100);
        x.air(0, 3, 999999);
        x.air(1, 3, 999999);
        x.run(1);
        // (999999 times 999 less 999999) / 1000 is 997999, of it 9 tenths 898199.
        d.eq("first", x.told(0, 3), 999999 - 898199);
        d.eq("second", x.told(1, 3), 999999);
        d.eq("OUT by the second", x.told(1, 13), 898199);
        d.eq("not by the first", x.told(0, 13), 0);
        AcidCity y = new AcidCity();
        y.cell(1);
        y.work(2, 0, 1, 9, 0);
        y.work(3, 0, 1, 9, 0);
        y.air(0, 0, 999995);
        y.air(0, 1, 999999);
        y.air(0, 2, 999999);
        y.air(0, 3, 9);
        y.store(5, 1);
        y.run(1);
        d.eq("OXYGEN", y.told(0, 0), 999999);
        d.eq("OXYGEN OUT", y.told(0, 10), 5);
        d.eq("VAPOUR", y.told(0, 2), 999994);
        d.eq("CARRIER OUT", y.told(0, 11), 5);
        y.person(30, 0, 0);
        y.air(0, 2, 999999);
        y.tune(0, 0, 0);
        y.run(1);
        d.eq("breath OUT", y.told(0, 12), 1);
        d.eq("breath OUT", y.told(0, 11), 6);
    }
}
