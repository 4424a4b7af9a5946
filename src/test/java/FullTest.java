/** As much of everything as there may be: what is one more is refused as FULL, and all goes on with what is there. */
public final class FullTest {
    private static final int BAD = AcidCity.BAD, NO = AcidCity.NO, FULL = AcidCity.FULL, NONE = AcidCity.NONE;
    private static final Due d = new Due();

    public static void main(String[] args) {
        oneMore();
        theLast();
        aMinute();
        allText();
        day();
        roundsOfAll();
        minutes();
        d.end();
    }

    /** 20 CELLS, 24 LOCKS, 24 of PEOPLE, one or two to a CELL. */
    private static AcidCity peopled() {
        AcidCity x = new AcidCity();
        for (int i = 0; i < 20; i++) {
            x.cell(1 + i);
            x.air(i, 0, 1000 + i);
        }
        for (int i = 0; i < 24; i++) {
            x.lock(i % 20, (i + 1) % 20, 1 + i % 9);
            x.person(20 + i, i % 4, i % 20);
        }
        return x;
    }

    private static void works(AcidCity x) {
        for (int i = 0; i < 24; i++) {
            x.work(1, i % 20, 100 + i, 9, 10 + i);
        }
    }

    private static void desk(AcidCity x) {
        for (int i = 0; i < 6; i++) {
            x.ship(100, 10 + i, 5);
        }
        for (int i = 0; i < 10; i++) {
            x.lot(10 + i, 1 + i);
        }
        for (int i = 0; i < 7; i++) {
            x.build(1, 7 - i, 0);
        }
    }

    private static void oneMore() {
        AcidCity x = peopled();
        works(x);
        desk(x);
        for (int i = 0; i < 12; i++) {
            d.eq("TEXT", Say.text(x, "share " + i), i);
        }
        for (int i = 1; i <= 60; i++) {
            d.eq("tell", x.tell(i), i);
        }
        for (int i = 1; i <= 8; i++) {
            d.eq("feed", x.feed(0x73686172, 0x65202020, 0x20202020), 12 * i);
        }
        int[] full = {20, 24, 24, 0, 24, 0, 12, 0, 6, 10, 7, 0, 60, 96, 0};
        counts(x, full);
        d.eq("cell", x.cell(1), FULL);
        d.eq("cell: BAD first", x.cell(0), BAD);
        d.eq("lock", x.lock(0, 1, 1), FULL);
        d.eq("lock: BAD first", x.lock(0, 0, 1), BAD);
        for (int kind = 0; kind <= 6; kind++) {
            d.eq("work", x.work(kind, 0, 1, kind == 0 || kind == 5 ? 0 : 1, kind == 5 ? 1 : 0), FULL);
            d.eq("work: BAD first", x.work(kind, 0, 0, kind == 0 || kind == 5 ? 0 : 1, kind == 5 ? 1 : 0), BAD);
        }
        d.eq("person", x.person(1, 1, 1), FULL);
        d.eq("person: BAD first", x.person(1, 1, 20), BAD);
        d.eq("birth", x.birth(0), FULL);
        d.eq("birth: BAD first", x.birth(20), BAD);
        d.eq("ship", x.ship(2, 0, 1), FULL);
        d.eq("ship: BAD first", x.ship(1, 0, 1), BAD);
        d.eq("lot", x.lot(1, 1), FULL);
        d.eq("lot: BAD first", x.lot(0, 1), BAD);
        d.eq("build", x.build(1, 1, 0), FULL);
        d.eq("build: BAD first", x.build(1, 1, 128), BAD);
        d.eq("tell", x.tell(1), FULL);
        d.eq("feed", x.feed(1, 2, 3), FULL);
        counts(x, full);
        d.eq("text: the FAULT first", x.text(), -112);
        d.eq("text", Say.text(x, "share 1"), FULL);
        d.eq("TEXTS", x.count(6), 12);
    }

    private static void counts(AcidCity x, int[] due) {
        for (int what = 0; what < due.length; what++) {
            d.eq("count(" + what + ")", x.count(what), due[what]);
        }
    }

    private static void theLast() {
        AcidCity x = peopled();
        works(x);
        desk(x);
        d.eq("the last CELL", x.told(19, 6), 20);
        d.eq("none behind it", x.told(20, 6), BAD);
        d.eq("its PEOPLE", x.told(19, 7), 1);
        d.eq("PEOPLE of the first", x.told(0, 7), 2);
        d.eq("its WORKS", x.told(19, 8), 1);
        d.eq("WORKS of the first", x.told(0, 8), 2);
        d.eq("the last LOCK", x.turn(23, 23, 1), 0);
        d.eq("none behind it", x.turn(24, 23, 1), BAD);
        d.eq("the last WORK", x.has(23, 2), 123);
        d.eq("none behind it", x.has(24, 2), BAD);
        d.eq("the last of PEOPLE", x.is(23, 0), 43);
        d.eq("none behind", x.is(24, 0), BAD);
        d.eq("the last SHIP", x.window(5), 15);
        d.eq("none behind it", x.window(6), BAD);
        d.eq("all LOTS", x.cargo(99999), 1023);
        d.eq("the last LOT", x.cargo(19), 512);
        d.eq("the last BUILD", x.planned(60, 6), 6);
        d.eq("none behind it", x.planned(60, 7), NONE);
        int sum = 0;
        for (int i = 0; i < 7; i++) {
            sum += (7 - i) * (60 - i - 1);
        }
        d.eq("all BUILDS", x.plan(60, 20000), sum);
        d.eq("the first to be shed", x.order(0), 23);
        d.eq("the last to be shed", x.order(23), 0);
        d.eq("none behind it", x.order(24), NONE);
        d.eq("a SHARE of 24", x.share(23, 47), 1);
        d.eq("a SHARE of 24", x.share(22, 47), 2);
        int weight = 24 * 60 + (20 * 1000 + 190) / 100;
        int lift = 0;
        for (int i = 0; i < 24; i++) {
            weight += 100 + i;
            lift += (10 + i) * 540 / 100;
        }
        d.eq("LIFT of 24", x.city(2), lift);
        d.eq("WEIGHT of all", x.city(3), weight);
        d.eq("all are not enough", x.enough(), NO);
        for (int i = 0; i < 24; i++) {
            d.eq("be DEAD", x.be(i, 3, 100), 0);
        }
        for (int i = 0; i < 20; i++) {
            x.air(i, 0, 0);
        }
        d.eq("all DEAD", x.count(5), 24);
        int over = lift - (24 * 100 + 276);
        x.store(0, 100 * over + 99);
        d.eq("LIFT is WEIGHT: none must be shed", x.enough(), 0);
        x.store(0, 100 * over + 100);
        d.eq("one more: who is shed takes its LIFT along, and all are not enough", x.enough(), NO);
    }

    /** A GARDEN in the last CELL and a STILL in the first, holes and locks everywhere: what all did in a MINUTE. */
    private static void aMinute() {
        AcidCity x = new AcidCity();
        for (int i = 0; i < 20; i++) {
            x.cell(10);
            x.air(i, 0, 2000);
            x.air(i, 2, 100);
            x.air(i, 5, 10);
            x.person(30, 3, i);
        }
        for (int i = 0; i < 4; i++) {
            x.person(30, 0, 19);
        }
        for (int i = 0; i < 24; i++) {
            x.work(2, i < 20 ? i : 19, 1, 7, 0);
            x.lock(i % 20, (i + 1) % 20, 9);
            x.turn(i, 0, 1);
        }
        x.set(3, 0);
        x.run(1);
        // 7 more by a GARDEN, 20 lost by the HOLE (2007 thousandths by ten), 2 breathed. LOCKS move what differs.
        d.eq("the 10th CELL: alike, nothing flows", x.told(9, 0), 2007 - 20 - 2);
        d.eq("OUT there", x.told(9, 10), 20);
        int oxygen = 0;
        int out = 0;
        for (int i = 0; i < 20; i++) {
            oxygen += x.told(i, 0);
            out += x.told(i, 10);
        }
        d.eq("not a gram is lost", oxygen + out, 20 * 2000 + 24 * 7 - 24 * 2);
        d.eq("all OUT", x.city(7), out);
        x.run(59);
        for (int i = 0; i < 20; i++) {
            d.eq("REPORT of CELL " + i, x.known(i, 5), 60);
            d.eq("OXYGEN of CELL " + i, x.known(i, 0), x.told(i, 0));
        }
        d.eq("none on their way", x.count(11), 0);
    }

    /** 12 TEXTS in FORCE, the last of the longest kind, over 24 of PEOPLE and 24 WORKS. */
    private static void allText() {
        AcidCity x = new AcidCity();
        x.cell(50);
        x.air(0, 0, 999999);
        for (int i = 0; i < 24; i++) {
            x.person(i + 1, 0, 0);
            x.work(0, 0, 1 + i, 0, 0);
        }
        String[] texts = {"share 1", "share 2", "open 1", "birth 1", "vote 1", "pass y", "shed 1", "shed 2", "open 2",
            "vote 2", "share " + "a+".repeat(44) + "a ", "shed (" + "m+".repeat(44) + "1)"};
        for (int i = 0; i < 12; i++) {
            d.eq("text", Say.text(x, texts[i]), i);
            d.eq("hold", x.hold(i), 0);
            d.eq("say", x.say(23, 1), 1);
            d.eq("tally", x.tally(), 1);
        }
        x.run(60);
        d.eq("all in FORCE", x.count(7), 12);
        int[] why = {10, 8, 11, 3, 9, 5};
        for (int key = 0; key < 6; key++) {
            d.eq("why", x.why(key), why[key]);
        }
        d.eq("NUMBERS and NAMES", x.of(10, 3), 45);
        d.eq("NUMBERS and NAMES", x.of(11, 3), 45);
        // Parts are 45 times AGE, together 45 times 300.
        d.eq("SHARE of the last", x.share(23, 300), 24);
        d.eq("SHARE of the first", x.share(0, 300), 1);
        d.eq("the first to be shed", x.order(0), 23);
        d.eq("the last to be shed", x.order(23), 0);
        d.eq("hold", x.hold(11), 1);
        for (int i = 0; i < 24; i++) {
            d.eq("all may say", x.say(i, i % 2), i / 2 + 1);
        }
        d.eq("tally", x.tally(), 1);
        d.eq("struck", x.of(11, 2), 2);
        x.run(60);
        d.eq("the one ahead of it", x.why(2), 7);
    }

    /** THE DAY TOLD of a full city is the day that comes; CHECKS with all rows. */
    private static void day() {
        AcidCity x = peopled();
        for (int i = 0; i < 24; i++) {
            x.work(i % 2 == 0 ? 2 : 1, 19 - i % 20, 30, 5, i % 2 == 0 ? 0 : 60);
        }
        x.air(19, 2, 5000);
        x.air(3, 2, 5000);
        x.turn(23, 3, 1);
        x.keep();
        int[] due = new int[48];
        for (int i = 0; i < 24; i++) {
            x.run(60);
            due[2 * i] = x.city(0);
            for (int cell = 0; cell < 20 && i < 3; cell++) {
                due[2 * i + 1] += x.told(cell, 0);
            }
        }
        for (int i = 0; i < 6; i++) {
            x.tell(due[i]);
        }
        d.eq("three HOURS", x.check(2, 3, 0), 0);
        for (int i = 0; i < 6; i++) {
            x.tell(due[i]);
        }
        d.eq("of four one is missing", x.check(2, 4, 0), 7);
        d.eq("the city went on", x.city(6), 1440);
        d.eq("THE IMAGE is as it was", x.back(), 0);
        d.eq("THE IMAGE is as it was", x.told(19, 2), 5000);
        AcidCity y = new AcidCity();
        y.keep();
        for (int i = 0; i < 60; i++) {
            y.tell(i % 2 == 0 ? 300 : 0);
        }
        d.eq("60 numbers for 24 HOURS: one too many", y.check(2, 24, 0), 49);
        for (int i = 0; i < 60; i++) {
            y.tell(0);
        }
        d.eq("60 numbers for THE LOADS of 24 HOURS", y.check(0, 24, 0), 49);
        for (int i = 0; i < 60; i++) {
            y.tell(0);
        }
        d.eq("60 numbers for no BUILDS", y.check(1, 24, 0), 1);
        desk(y);
        for (int i = 0; i < 14; i++) {
            y.tell(i % 2 == 0 ? i / 2 : i / 2 + 1);
        }
        d.eq("all 7 BUILDS", y.check(1, 60, 0), 0);
    }

    private static void roundsOfAll() {
        AcidCity x = new AcidCity();
        x.cell(50);
        for (int i = 0; i < 24; i++) {
            x.work(1, 0, 1, 1, 0);
            x.person(30, 1, 0);
        }
        for (int i = 0; i < 48; i++) {
            x.weather(i, 167);
        }
        // Each HOUR takes a LAYER of each SKIN, and 24 FITTERS sew one to each that would fall.
        d.eq("none falls below", x.lack(48, 1), NONE);
        d.eq("the last SKIN", x.sewn(48, 1, 23, 0), 1);
        d.eq("the last HOUR", x.sewn(48, 1, 23, 47), 1);
        d.eq("the first SKIN", x.sewn(48, 1, 0, 47), 1);
        x.be(23, 3, 100);
        d.eq("23 FITTERS are too few", x.lack(48, 1), 0);
        d.eq("the last SKIN", x.sewn(48, 1, 23, 0), 0);
    }

    /** As many MINUTES as there may be. */
    private static void minutes() {
        AcidCity x = new AcidCity();
        x.cell(50);
        for (int i = 0; i < 166; i++) {
            x.run(120);
        }
        d.eq("19920", x.city(6), 19920);
        d.eq("it would be above 20000", x.run(81), FULL);
        d.eq("no MINUTE went by", x.city(6), 19920);
        d.eq("20000 is not above it", x.run(80), 20000);
        d.eq("one more", x.run(1), FULL);
        d.eq("BAD first", x.run(121), BAD);
        d.eq("BAD first", x.run(0), BAD);
        d.eq("PHASE", x.city(5), 20000);
        d.eq("keep", x.keep(), 20000);
        d.eq("back", x.back(), 20000);
    }
}
