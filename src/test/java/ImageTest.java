/** Promises 61 to 65: rows, images. */
public final class ImageTest {
    private static final int BAD = AcidCity.BAD, NO = AcidCity.NO, FULL = AcidCity.FULL, NONE = AcidCity.NONE;
    private static final Due d = new Due();

    public static void main(String[] args) {
        tells();
        checkLoads();
        checkOrder();
        checkDay();
        dayThatComes();
        keeps();
        backAgain();
        keepsVote();
        keepsReports();
        counts();
        d.end();
    }

    private static void tells() {
        AcidCity x = new AcidCity();
        for (int i = 1; i <= 60; i++) {
            d.eq("tell", x.tell(-i), i);
        }
        d.eq("the 61st", x.tell(0), FULL);
        d.eq("waiting", x.count(12), 60);
        d.eq("check BAD", x.check(3, 1, 1), BAD);
        d.eq("none wait then", x.count(12), 0);
        d.eq("tell", x.tell(0), 1);
    }

    private static int check(AcidCity x, int what, int n, int bank, int... rows) {
        for (int v : rows) {
            x.tell(v);
        }
        int got = x.check(what, n, bank);
        d.eq("none wait then", x.count(12), 0);
        return got;
    }

    private static void checkLoads() {
        AcidCity x = new AcidCity();
        x.takes(0, 5);
        x.takes(1, 2);
        x.takes(2, 9);
        x.takes(3, 9);
        x.harm(0, 1, 4);
        x.harm(1, 1, 9);
        // 7: load 1 (HARM 4, 5 left), then 0.
        d.eq("right", check(x, 0, 2, 7, 1, 5, 0, 0), 0);
        d.eq("the first wrong", check(x, 0, 2, 7, 0, 5, 0, 0), 1);
        d.eq("the second wrong", check(x, 0, 2, 7, 1, 4, 0, 0), 2);
        d.eq("the last wrong", check(x, 0, 2, 7, 1, 5, 0, 1), 4);
        d.eq("missing", check(x, 0, 2, 7, 1, 5, 0), 4);
        d.eq("all missing", check(x, 0, 2, 7), 1);
        d.eq("one too many", check(x, 0, 2, 7, 1, 5, 0, 0, 0), 5);
        d.eq("two too many", check(x, 0, 2, 7, 1, 5, 0, 0, 0, 0), 5);
        d.eq("n 0", check(x, 0, 0, 7, 1), BAD);
        d.eq("n 25", check(x, 0, 25, 7, 1), BAD);
        d.eq("bank -1", check(x, 0, 1, -1, 1), BAD);
        d.eq("bank 301", check(x, 0, 1, 301, 1), BAD);
        d.eq("what -1", check(x, -1, 1, 1, 1), BAD);
        d.eq("NONE", check(x, 0, 2, 3, 1, 1), NONE);
        int[] all = new int[48];
        x.takes(0, 1);
        for (int i = 0; i < 24; i++) {
            all[2 * i + 1] = 300 - i - 1;
        }
        d.eq("24 HOURS", check(x, 0, 24, 300, all), 0);
        x.takes(0, 0);
        d.eq("1 HOUR, BANK 0", check(x, 0, 1, 0, 0, 0), 0);
    }

    private static void checkOrder() {
        AcidCity x = new AcidCity();
        d.eq("nothing", check(x, 1, 5, -9), 0);
        d.eq("too many", check(x, 1, 5, -9, 0), 1);
        x.build(3, 1, 0);
        x.build(2, 9, 0);
        d.eq("right", check(x, 1, 60, 999, 1, 2, 0, 5), 0);
        d.eq("wrong YEAR", check(x, 1, 60, 0, 1, 3, 0, 5), 2);
        d.eq("1 YEAR: the first by numbers", check(x, 1, 1, 0, 0, 3, 1, 5), 0);
        d.eq("wrong", check(x, 1, 60, 0, 1, 2, 1, 5), 3);
        d.eq("missing", check(x, 1, 60, 0, 1, 2, 0), 4);
        d.eq("years 0", check(x, 1, 0, 0, 1), BAD);
        d.eq("years 61", check(x, 1, 61, 0, 1), BAD);
        x.build(1, 1, 4);
        d.eq("NO", check(x, 1, 5, 0, 1), NO);
    }

    private static void checkDay() {
        AcidCity x = new AcidCity();
        x.cell(50);
        x.cell(50);
        x.air(0, 0, 500);
        x.air(1, 0, 1000);
        x.person(30, 0, 0);
        x.run(30);
        d.eq("no IMAGE", check(x, 2, 1, 0, 1), NO);
        d.eq("BAD ahead of NO", check(x, 2, 0, 0, 1), BAD);
        d.eq("BAD ahead of NO", check(x, 2, 25, 0, 1), BAD);
        x.keep();
        x.air(0, 0, 0);
        x.run(7);
        // From MINUTE 30 on HOURS are 60 MINUTES each: WEIGHT 60 and 15 or 14 pulls by -7.
        int first = 300 - 30 * 7;
        d.eq("the first HOUR only", check(x, 2, 2, -1, 0, 1320), 3);
        d.eq("right", check(x, 2, 2, -1, 0, 1320, 0, 1200), 0);
        d.eq("wrong OXYGEN", check(x, 2, 2, -1, 0, 1320, 0, 1201), 4);
        d.eq("too many", check(x, 2, 1, -1, 0, 1320, 0), 3);
        d.eq("the city is as it was", x.city(6), 37);
        d.eq("the city is as it was", x.told(0, 0), 0);
        d.eq("the IMAGE is as it was", x.back(), 30);
        d.eq("the IMAGE is as it was", x.told(0, 0), 440);
        d.eq("HEIGHT", x.city(0), first);
        x.run(60);
        d.eq("so it comes", x.city(0), 0);
        d.eq("so it comes", x.told(0, 0) + x.told(1, 0), 1320);
        AcidCity y = new AcidCity();
        y.keep();
        int[] due = new int[48];
        for (int i = 0; i < 24; i++) {
            due[2 * i] = 300;
        }
        d.eq("24 HOURS", check(y, 2, 24, 0, due), 0);
    }

    /** THE DAY TOLD of a city where all goes on at once is the day that comes. */
    private static void dayThatComes() {
        AcidCity x = new AcidCity();
        for (int i = 0; i < 3; i++) {
            x.cell(20 + 30 * i);
            x.air(i, 0, 4000 * i);
            x.air(i, 2, 900);
            x.air(i, 3, 300 * i);
            x.person(9 + 3 * i, 3, i);
            x.person(40, 0, i);
        }
        x.air(1, 5, 3);
        x.lock(0, 1, 4);
        x.lock(2, 1, 7);
        x.turn(0, 0, 1);
        x.turn(1, 0, 1);
        x.work(1, 0, 90, 2, 130);
        x.work(5, 2, 5, 0, 100);
        x.work(2, 1, 20, 6, 0);
        x.work(3, 2, 20, 5, 0);
        x.work(4, 0, 20, 2, 0);
        x.work(6, 0, 20, 9000, 0);
        x.work(2, 2, 20, 3, 0);
        x.tune(2, 1, 77);
        x.tune(6, 0, 0);
        x.store(5, 900);
        x.store(0, 500);
        x.set(2, 200);
        x.table(2, 31, 90);
        x.drop(5);
        x.run(25);
        x.keep();
        int[] due = new int[10];
        for (int i = 0; i < 5; i++) {
            x.run(60);
            due[2 * i] = x.city(0);
            due[2 * i + 1] = x.told(0, 0) + x.told(1, 0) + x.told(2, 0);
        }
        d.eq("OXYGEN came to be another", due[1] != due[9] ? 1 : 0, 1);
        d.eq("HEIGHT came to be another", due[0] != due[8] ? 1 : 0, 1);
        d.eq("the day that came", check(x, 2, 5, 0, due), 0);
        x.back();
        d.eq("and told again", check(x, 2, 5, 0, due), 0);
        for (int i = 0; i < 5; i++) {
            x.run(60);
            d.eq("and gone on from", x.city(0), due[2 * i]);
        }
    }

    private static void keeps() {
        AcidCity x = new AcidCity();
        d.eq("no IMAGE", x.back(), NO);
        x.cell(50);
        x.cell(60);
        x.lock(0, 1, 3);
        x.person(30, 3, 0);
        x.air(0, 0, 9000);
        x.air(0, 5, 4);
        x.work(1, 0, 5, 4, 100);
        x.work(6, 0, 5, 900, 0);
        x.tune(0, 1, 60);
        x.run(2);
        x.turn(0, 0, 1);
        x.store(5, 77);
        x.table(1, 3, 5);
        x.shows(1, 2, 3);
        x.tested(1, 3);
        x.weather(0, 999);
        x.takes(0, 9);
        x.harm(0, 1, 8);
        x.ship(100, 50, 5);
        x.lot(5, 5);
        x.build(2, 7, 0);
        Say.text(x, "share a");
        x.hold(0);
        x.say(0, 1);
        x.tally();
        x.tell(5);
        x.feed(1, 2, 3);
        int[] seen = look(x);
        d.eq("keep", x.keep(), 2);
        x.cell(70);
        x.lock(0, 1, 3);
        x.person(40, 0, 1);
        x.be(0, 3, 50);
        x.air(0, 0, 1);
        x.air(0, 5, 0);
        x.work(0, 0, 5, 0, 0);
        x.drop(1);
        x.run(101);
        x.turn(0, 0, 0);
        x.store(5, 0);
        x.table(1, 3, 6);
        x.set(0, 100);
        x.set(2, 100);
        x.set(3, 9);
        x.shows(1, 2, 1);
        x.tested(1, -1);
        x.weather(0, 1);
        x.takes(0, 1);
        x.harm(0, 1, 0);
        x.ship(100, 50, 5);
        x.lot(5, 9);
        x.build(1, 99, 0);
        Say.text(x, "share 5");
        x.hold(0);
        x.shed();
        x.tell(6);
        x.feed(1, 2, 3);
        d.eq("back", x.back(), 2);
        same(x, seen);
        d.eq("numbers that wait are not of it", x.count(12), 2);
        d.eq("THE TAPE is not of it", x.count(13), 12);
        d.eq("the LOCK is open", x.turn(0, 0, 1), 1);
        d.eq("LATE", x.set(3, 10), 10);
        d.eq("ROUND", x.set(2, 5760), 5760);
        d.eq("TABLE", x.table(1, 3, 5), 5);
        d.eq("shows", x.shows(1, 2, 3), 3);
        d.eq("weather", x.weather(0, 999), 999);
        d.eq("takes", x.takes(0, 9), 9);
        d.eq("harm", x.harm(0, 1, 8), 8);
        x.run(1);
        d.eq("the hidden sum of FOULING", x.has(0, 4), 1);
        x.run(57);
        d.eq("the TEXT comes into FORCE", x.why(0), 0);
        d.eq("and says a", x.share(0, 9), 9);
        d.eq("again", x.back(), 2);
        same(x, seen);
    }

    private static int[] look(AcidCity x) {
        int[] seen = new int[120];
        int at = 0;
        for (int what = 0; what <= 13; what++) {
            seen[at++] = x.city(what);
        }
        for (int what = 0; what <= 14; what++) {
            seen[at++] = what == 12 || what == 13 ? 0 : x.count(what);
        }
        for (int cell = 0; cell < 3; cell++) {
            for (int what = 0; what <= 14; what++) {
                seen[at++] = x.told(cell, what);
            }
        }
        for (int what = 0; what <= 10; what++) {
            seen[at++] = x.has(0, what);
            seen[at++] = x.has(1, what);
        }
        for (int what = 0; what <= 4; what++) {
            seen[at++] = x.is(0, what);
        }
        for (int what = 0; what <= 3; what++) {
            seen[at++] = x.of(0, what);
        }
        seen[at++] = x.find(0);
        seen[at++] = x.lack(3, 4);
        seen[at++] = x.dark(1, 5);
        seen[at++] = x.window(0);
        seen[at++] = x.cargo(10);
        seen[at++] = x.plan(10, 100);
        return seen;
    }

    private static void same(AcidCity x, int[] due) {
        int[] seen = look(x);
        for (int i = 0; i < seen.length; i++) {
            d.eq("as THE IMAGE, " + i, seen[i], due[i]);
        }
    }

    private static void backAgain() {
        AcidCity x = new AcidCity();
        x.cell(5);
        d.eq("keep", x.keep(), 0);
        x.run(10);
        d.eq("keep anew", x.keep(), 10);
        x.run(10);
        d.eq("back to the newer one", x.back(), 10);
        x.run(120);
        d.eq("again", x.back(), 10);
        d.eq("and again", x.back(), 10);
        // What was made behind THE IMAGE is new when it is made again.
        x.cell(6);
        x.air(1, 0, 9999);
        x.air(1, 3, 5);
        x.air(1, 5, 9);
        x.work(1, 1, 5, 4, 100);
        x.tune(0, 1, 99);
        x.person(9, 3, 1);
        x.be(0, 3, 60);
        x.set(3, 0);
        x.run(120);
        x.shed();
        d.eq("known", x.known(1, 5) != NONE ? 1 : 0, 1);
        x.back();
        d.eq("made again", x.cell(7), 1);
        int[] due = {0, 0, 0, 0, 0, 0, 7, 0, 0, BAD, 0, 0, 0, 0, 0};
        for (int what = 0; what <= 14; what++) {
            d.eq("a new CELL", x.told(1, what), due[what]);
        }
        d.eq("nothing known", x.known(1, 5), NONE);
        d.eq("made again", x.work(1, 1, 5, 4, 100), 0);
        int[] work = {1, 1, 5, 1, 0, 4, 100, 0, 0, NONE, 0};
        for (int what = 0; what <= 10; what++) {
            d.eq("a new WORK", x.has(0, what), work[what]);
        }
        d.eq("no FOULING", x.tune(0, 1, 0), 0);
        x.person(9, 3, 1);
        d.eq("a new one is not SICK", x.is(0, 3), 0);
    }

    private static void keepsVote() {
        AcidCity x = new AcidCity();
        x.cell(50);
        x.air(0, 0, 9000);
        x.person(30, 0, 0);
        x.person(30, 0, 0);
        x.person(30, 0, 0);
        Say.text(x, "share a");
        Say.text(x, "vote a");
        x.hold(1);
        x.say(0, 1);
        x.keep();
        x.say(1, 0);
        x.say(2, 0);
        d.eq("not passed", x.tally(), 0);
        x.hold(0);
        x.back();
        d.eq("the VOTE is there", x.count(14), 1);
        d.eq("who had said has", x.say(0, 1), NO);
        d.eq("who had not has not", x.say(1, 1), 2);
        d.eq("passed", x.tally(), 1);
        d.eq("it was that TEXT", x.of(1, 1), 1);
        d.eq("not the other", x.of(0, 1), NONE);
        x.hold(1);
        x.say(0, 1);
        x.keep();
        d.eq("struck", x.tally(), 1);
        x.back();
        d.eq("to strike still", x.tally(), 1);
        d.eq("struck", x.of(1, 2), 1);
        x.keep();
        x.hold(0);
        x.say(0, 1);
        d.eq("made", x.tally(), 1);
        d.eq("made", x.of(0, 1), 1);
        x.back();
        d.eq("MOOTED again", x.of(0, 1), NONE);
        d.eq("to make it", x.hold(0), 0);
    }

    private static void keepsReports() {
        AcidCity x = new AcidCity();
        x.cell(50);
        x.air(0, 0, 9000);
        x.person(30, 3, 0);
        x.run(60);
        x.keep();
        x.run(15);
        d.eq("came", x.known(0, 5), 60);
        x.back();
        d.eq("on its way again", x.count(11), 1);
        d.eq("not known", x.known(0, 5), NONE);
        x.run(11);
        d.eq("came", x.known(0, 0), 9000 - 120);
    }

    private static void counts() {
        AcidCity x = new AcidCity();
        d.eq("15", x.count(15), BAD);
        d.eq("-1", x.count(-1), BAD);
        x.cell(5);
        x.cell(5);
        x.cell(5);
        x.lock(0, 1, 1);
        x.work(0, 0, 1, 0, 0);
        x.work(0, 0, 1, 0, 0);
        x.shed();
        for (int i = 0; i < 4; i++) {
            x.person(30, 0, 0);
        }
        x.be(0, 3, 100);
        x.be(1, 3, 100);
        Say.text(x, "share 1");
        x.ship(2, 0, 1);
        x.lot(1, 1);
        x.lot(1, 1);
        x.build(1, 1, 0);
        x.hold(0);
        x.tell(1);
        x.feed(0, 0, 0);
        x.trim(7);
        int[] due = {3, 1, 2, 1, 4, 2, 1, 0, 1, 2, 1, 0, 1, 7, 1};
        for (int what = 0; what < due.length; what++) {
            d.eq("count(" + what + ")", x.count(what), due[what]);
        }
    }
}
