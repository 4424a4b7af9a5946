/** Promises 53 to 60: the room, ships, builds. */
public final class RoomTest {
    private static final int BAD = AcidCity.BAD, NO = AcidCity.NO, FULL = AcidCity.FULL, NONE = AcidCity.NONE,
            SPENT = AcidCity.SPENT;
    private static final Due d = new Due();

    public static void main(String[] args) {
        known();
        late();
        overtaken();
        ships();
        windows();
        lots();
        cargo();
        builds();
        plans();
        tries();
        planned();
        d.end();
    }

    private static void known() {
        AcidCity x = new AcidCity();
        d.eq("no CELL", x.known(0, 0), BAD);
        x.cell(50);
        x.cell(50);
        d.eq("what 6", x.known(0, 6), BAD);
        d.eq("what -1", x.known(0, -1), BAD);
        d.eq("nothing", x.known(0, 5), NONE);
        x.person(30, 3, 0);
        x.person(30, 3, 0);
        x.person(30, 3, 1);
        x.be(2, 3, 100);
        for (int gas = 0; gas <= 4; gas++) {
            x.air(0, gas, gas == 3 ? 50 : 1000 + gas);
        }
        x.run(59);
        d.eq("no HOUR has begun", x.count(11), 0);
        x.run(1);
        d.eq("one REPORT a CELL, none of the DEAD", x.count(11), 1);
        d.eq("on its way", x.known(0, 5), NONE);
        x.air(0, 0, 5);
        x.run(10);
        d.eq("due in MINUTE 70", x.known(0, 5), NONE);
        d.eq("on its way", x.count(11), 1);
        x.run(1);
        d.eq("came", x.known(0, 5), 60);
        d.eq("none on the way", x.count(11), 0);
        // Two of 30 years use 4 OXYGEN a MINUTE, and make 2 CARRIER and 2 VAPOUR.
        int[] due = {1000 - 240, 1001 + 120, 1002 + 120, 50, 1004};
        for (int what = 0; what <= 4; what++) {
            d.eq("as it was sent", x.known(0, what), due[what]);
        }
        d.eq("the other CELL", x.known(1, 0), NONE);
    }

    private static void late() {
        AcidCity x = new AcidCity();
        x.cell(50);
        x.air(0, 0, 9000);
        x.person(30, 3, 0);
        x.set(3, 0);
        x.run(60);
        d.eq("at once", x.known(0, 5), 60);
        d.eq("none on the way", x.count(11), 0);
        x.set(3, 99);
        x.run(120);
        d.eq("two on the way", x.count(11), 2);
        x.run(40);
        d.eq("the first came in MINUTE 219", x.known(0, 5), 120);
        d.eq("one on the way", x.count(11), 1);
    }

    private static void overtaken() {
        AcidCity x = new AcidCity();
        x.cell(50);
        x.air(0, 0, 9000);
        x.person(30, 3, 0);
        x.set(3, 99);
        x.run(60);
        x.set(3, 1);
        x.run(60);
        d.eq("two on the way", x.count(11), 2);
        x.run(2);
        d.eq("the later one came", x.known(0, 5), 120);
        x.run(38);
        d.eq("the other one came", x.count(11), 0);
        d.eq("KNOWN is that which was sent last", x.known(0, 5), 120);
    }

    private static void ships() {
        AcidCity x = new AcidCity();
        int[][] bad = {{1, 0, 1}, {10000, 0, 1}, {2, -1, 1}, {2, 10000, 1}, {2, 0, 0}, {2, 0, 1000}};
        for (int[] b : bad) {
            d.eq("ship", x.ship(b[0], b[1], b[2]), BAD);
        }
        for (int i = 0; i < 6; i++) {
            d.eq("ship", x.ship(i == 0 ? 2 : 9999, i == 0 ? 0 : 9999, i == 0 ? 1 : 999), i);
        }
        d.eq("the 7th", x.ship(2, 0, 1), FULL);
        d.eq("BAD first", x.ship(1, 0, 1), BAD);
        d.eq("SHIPS", x.count(8), 6);
    }

    private static void windows() {
        AcidCity x = new AcidCity();
        d.eq("no SHIP", x.window(0), BAD);
        d.eq("-1", x.window(-1), BAD);
        x.ship(100, 250, 10);
        d.eq("50 .. 59 by the rest", x.window(0), 50);
        x.run(59);
        d.eq("59 is one", x.window(0), 59);
        x.run(1);
        d.eq("60 is none", x.window(0), 150);
        x.set(2, 9999);
        x.set(1, 4998);
        d.eq("DARK from MINUTE 61 on, for 5000", x.window(0), 60 + 5001 + 89);
        x.ship(9999, 9000, 1);
        d.eq("by DAY again", x.window(1), 9000);
        x.ship(2, 1, 999);
        d.eq("always", x.window(2), 60);
        x.set(1, 0);
        d.eq("at 9000 it is DARK, the next is too late", x.window(1), NONE);
        AcidCity y = new AcidCity();
        y.set(2, 2);
        y.ship(9998, 1, 1);
        d.eq("odd MINUTES are DARK", y.window(0), NONE);
        y.set(1, 1);
        d.eq("now they are DAY", y.window(0), 1);
        AcidCity v = new AcidCity();
        v.set(2, 8000);
        v.set(1, 0);
        v.ship(6000, 0, 1);
        v.run(1);
        // 6000 is DARK (4000 .. 7999), 12000 is DARK too (rest 4000); later ones are out of reach.
        d.eq("none within", v.window(0), NONE);
        v.set(1, 0);
        // One PHASE behind: 12000 has PHASE 11999, rest 3999: DAY.
        d.eq("11999 later", v.window(0), 12000);
        AcidCity last = new AcidCity();
        last.set(2, 4001);
        last.set(1, 3997);
        last.ship(6001, 5999, 1);
        // 5999: PHASE 9996, rest 1994: DAY.
        d.eq("5999", last.window(0), 5999);
        // 5999: PHASE 6099, rest 2098: DARK; 12000: PHASE 12100, rest 97: DAY, the last in reach.
        last.set(1, 100);
        d.eq("12000 later at most", last.window(0), 12000);
        last.ship(6002, 5999, 1);
        d.eq("12001 is out of reach", last.window(1), NONE);
    }

    private static void lots() {
        AcidCity x = new AcidCity();
        d.eq("MASS 0", x.lot(0, 0), BAD);
        d.eq("MASS 10000", x.lot(10000, 0), BAD);
        d.eq("WORTH -1", x.lot(1, -1), BAD);
        d.eq("WORTH 1000", x.lot(1, 1000), BAD);
        for (int i = 0; i < 10; i++) {
            d.eq("lot", x.lot(9999, 999), i);
        }
        d.eq("the 11th", x.lot(1, 0), FULL);
        d.eq("BAD first", x.lot(0, 0), BAD);
        d.eq("LOTS", x.count(9), 10);
        d.eq("all", x.cargo(99990), 1023);
        d.eq("all but the last as bits", x.cargo(99989), 511);
    }

    private static void cargo() {
        AcidCity x = new AcidCity();
        d.eq("-1", x.cargo(-1), BAD);
        d.eq("100000", x.cargo(100000), BAD);
        d.eq("no LOTS", x.cargo(99999), 0);
        x.lot(3, 0);
        d.eq("worth nothing: none is lighter", x.cargo(10), 0);
        x.lot(5, 7);
        x.lot(4, 4);
        x.lot(3, 3);
        x.lot(4, 4);
        d.eq("5", x.cargo(6), 2);
        d.eq("3 and 4: 7 in 7, but 5 is lighter", x.cargo(7), 2);
        d.eq("8: 5 and 3 for 10", x.cargo(8), 2 + 8);
        d.eq("9: 5 and 4 for 11, the least as bits", x.cargo(9), 2 + 4);
        d.eq("3: the one with WORTH", x.cargo(3), 8);
        d.eq("2: none", x.cargo(2), 0);
        d.eq("all with WORTH", x.cargo(99999), 2 + 4 + 8 + 16);
    }

    private static void builds() {
        AcidCity x = new AcidCity();
        int[][] bad = {{0, 1, 0}, {10, 1, 0}, {1, 0, 0}, {1, 100, 0}, {1, 1, -1}, {1, 1, 128}};
        for (int[] b : bad) {
            d.eq("build", x.build(b[0], b[1], b[2]), BAD);
        }
        for (int i = 0; i < 7; i++) {
            d.eq("build", x.build(9, 99, 127), i);
        }
        d.eq("the 8th", x.build(1, 1, 0), FULL);
        d.eq("BAD first", x.build(1, 1, 128), BAD);
        d.eq("BUILDS", x.count(10), 7);
        d.eq("a ring", x.plan(60, 1), NO);
    }

    private static void plans() {
        AcidCity x = new AcidCity();
        d.eq("years 0", x.plan(0, 1), BAD);
        d.eq("years 61", x.plan(61, 1), BAD);
        d.eq("1 and 1", x.plan(1, 1), 0);
        d.eq("tries 0", x.plan(1, 0), BAD);
        d.eq("tries 20001", x.plan(1, 20001), BAD);
        d.eq("nothing", x.plan(60, 20000), 0);
        x.build(9, 10, 0);
        d.eq("done in YEAR 9, counts behind it", x.plan(9, 10), 0);
        d.eq("one YEAR", x.plan(10, 10), 10);
        d.eq("YEARS it does not fit in", x.plan(3, 10), 0);
        x.build(1, 1, 0);
        // 1 then 0: 1 times 9 and 0 (done in YEAR 10); 0 then 1: 10 times 1 and 0.
        d.eq("the other way round", x.plan(10, 10), 10);
        // 1 then 0: 19 and 100; 0 then 1: 110 and 10.
        d.eq("in 20", x.plan(20, 10), 120);
        x.build(1, 99, 1);
        // 2 behind 0: 0, 2, 1: 110, 99 times 10, 9.
        d.eq("AHEAD", x.plan(20, 100), 110 + 990 + 9);
        AcidCity y = new AcidCity();
        y.build(1, 5, 64);
        d.eq("AHEAD that is not there", y.plan(10, 10), NO);
        d.eq("none at all", y.planned(10, 0), NO);
    }

    private static void tries() {
        AcidCity x = new AcidCity();
        x.build(1, 1, 0);
        x.build(1, 1, 0);
        x.build(1, 1, 0);
        // 3 first ones, 6 behind them, 6 at the end.
        d.eq("14", x.plan(10, 14), SPENT);
        d.eq("15", x.plan(10, 15), 9 + 8 + 7);
        x.build(1, 1, 8);
        d.eq("SPENT ahead of NO", x.plan(10, 14), SPENT);
        d.eq("NO", x.plan(10, 15), NO);
        d.eq("planned NO", x.planned(10, 0), NO);
        AcidCity y = new AcidCity();
        for (int i = 0; i < 7; i++) {
            y.build(1, 1, 0);
        }
        d.eq("all of 7", y.plan(7, 13698), SPENT);
        d.eq("all of 7", y.plan(7, 13699), 21);
    }

    private static void planned() {
        AcidCity x = new AcidCity();
        d.eq("years 0", x.planned(0, 0), BAD);
        d.eq("years 61", x.planned(61, 0), BAD);
        d.eq("i -1", x.planned(1, -1), BAD);
        d.eq("nothing", x.planned(1, 0), NONE);
        x.build(2, 4, 0);
        x.build(1, 2, 0);
        x.build(1, 9, 3);
        x.build(1, 3, 0);
        // Done as 0, 1, 2, 3: 4 times 8, 2 times 7, 9 times 6, 3 times 5 is 115; 3 first: 27, 28, 12, 45 is 112;
        // 1, 0, 2, 3: 18, 28, 54, 15 is 115, too, but 0 is less.
        d.eq("sum", x.plan(10, 1000), 115);
        int[] due = {0, 1, 2, 3, NONE, NONE};
        for (int i = 0; i < due.length; i++) {
            d.eq("planned", x.planned(10, i), due[i]);
        }
        d.eq("far", x.planned(10, Integer.MAX_VALUE), NONE);
        d.eq("60 YEARS", x.planned(60, 0), 0);
        d.eq("1 YEAR: nothing counts, the first by numbers", x.planned(1, 3), 3);
    }
}
