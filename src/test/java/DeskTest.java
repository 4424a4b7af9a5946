/** Promises 43 to 52: doubts, rounds, the dark. */
public final class DeskTest {
    private static final int BAD = AcidCity.BAD, NONE = AcidCity.NONE;
    private static final Due d = new Due();

    public static void main(String[] args) {
        doubts();
        nextTests();
        weathers();
        lacks();
        sewing();
        fitters();
        told();
        darkness();
        darkEdges();
        d.end();
    }

    private static void doubts() {
        AcidCity x = new AcidCity();
        int[][] bad = {{8, 0, 0}, {-1, 0, 0}, {0, 12, 0}, {0, -1, 0}, {0, 0, 4}, {0, 0, -1}};
        for (int[] b : bad) {
            d.eq("shows", x.shows(b[0], b[1], b[2]), BAD);
        }
        d.eq("shows", x.shows(7, 11, 3), 0);
        d.eq("shows was", x.shows(7, 11, 2), 3);
        d.eq("test 8", x.tested(8, 0), BAD);
        d.eq("test -1", x.tested(-1, 0), BAD);
        d.eq("v 4", x.tested(0, 4), BAD);
        d.eq("v -2", x.tested(0, -2), BAD);
        d.eq("find 2", x.find(2), BAD);
        d.eq("find -1", x.find(-1), BAD);
        d.eq("all", x.find(0), 4095);
        d.eq("one", x.tested(7, 2), 1);
        d.eq("as bits", x.find(0), 2048);
        d.eq("the others", x.tested(7, 0), 11);
        d.eq("none", x.tested(7, 3), 0);
        d.eq("as bits", x.find(0), 0);
        d.eq("none to part", x.find(1), NONE);
        d.eq("not TESTED any more", x.tested(7, -1), 12);
        x.shows(0, 11, 1);
        x.shows(0, 3, 1);
        d.eq("two", x.tested(0, 1), 2);
        d.eq("both agree", x.tested(7, 2), 1);
        x.shows(7, 11, 0);
        d.eq("shows anew", x.find(0), 0);
    }

    private static void nextTests() {
        AcidCity x = new AcidCity();
        d.eq("none parts", x.find(1), NONE);
        x.shows(5, 0, 1);
        d.eq("1 of 12", x.find(1), 5);
        x.shows(6, 0, 3);
        d.eq("like: the first", x.find(1), 5);
        x.shows(6, 1, 3);
        d.eq("10 alike", x.find(1), 6);
        x.shows(2, 1, 1);
        x.shows(2, 2, 2);
        x.shows(2, 3, 3);
        d.eq("9 alike", x.find(1), 2);
        x.shows(2, 4, 3);
        x.shows(6, 2, 1);
        d.eq("8 alike", x.find(1), 2);
        x.shows(6, 2, 0);
        x.shows(2, 4, 0);
        x.tested(2, 0);
        d.eq("of those not TESTED, by what is LEFT", x.find(1), 5);
        x.tested(5, 0);
        d.eq("6 parts none of those LEFT", x.find(1), NONE);
    }

    private static void weathers() {
        AcidCity x = new AcidCity();
        d.eq("48", x.weather(48, 0), BAD);
        d.eq("-1", x.weather(-1, 0), BAD);
        d.eq("1000", x.weather(0, 1000), BAD);
        d.eq("below", x.weather(0, -1), BAD);
        d.eq("weather", x.weather(47, 999), 0);
        d.eq("weather was", x.weather(47, 0), 999);
    }

    private static void lacks() {
        AcidCity x = new AcidCity();
        x.cell(5);
        d.eq("n 0", x.lack(0, 0), BAD);
        d.eq("n 49", x.lack(49, 0), BAD);
        d.eq("least -1", x.lack(1, -1), BAD);
        d.eq("least 10", x.lack(1, 10), BAD);
        d.eq("no SKIN", x.lack(48, 9), NONE);
        x.work(1, 0, 9, 3, 0);
        x.work(5, 0, 1, 0, 999);
        d.eq("3 are not fewer than 3", x.lack(48, 3), NONE);
        d.eq("3 are fewer than 4 behind the first", x.lack(48, 4), 0);
        x.weather(0, 165);
        x.weather(2, 2);
        x.weather(4, 999);
        // WORN: 99, 99, 100, .., and 599 in HOUR 4: below 0, too. A PATCH keeps nothing off here.
        d.eq("99 is no LAYER", x.lack(2, 3), NONE);
        d.eq("100 is one", x.lack(3, 3), 2);
        d.eq("6 at once", x.lack(5, 0), 4);
        d.eq("2 left", x.lack(4, 2), NONE);
        x.shed();
        d.eq("GONE", x.lack(5, 9), NONE);
        AcidCity y = new AcidCity();
        y.cell(5);
        y.work(1, 0, 9, 3, 0);
        y.set(0, 0);
        y.run(16);
        d.eq("WORN", y.has(0, 7), 96);
        y.weather(0, 6);
        d.eq("3 more", y.lack(1, 3), NONE);
        y.weather(0, 7);
        d.eq("4 more: six times 7 / 10", y.lack(1, 3), 0);
    }

    private static void sewing() {
        AcidCity x = new AcidCity();
        x.cell(5);
        x.work(0, 0, 9, 0, 0);
        x.work(1, 0, 9, 3, 0);
        x.work(1, 0, 9, 1, 0);
        x.work(1, 0, 9, 1, 0);
        for (int i = 0; i < 6; i++) {
            x.weather(i, 167);
        }
        int[][] bad = {{0, 0, 0, 0}, {49, 0, 0, 0}, {1, 10, 0, 0}, {1, -1, 0, 0}, {1, 0, 4, 0}, {1, 0, -1, 0},
            {1, 0, 0, 1}, {1, 0, 0, -1}};
        for (int[] b : bad) {
            d.eq("sewn", x.sewn(b[0], b[1], b[2], b[3]), BAD);
        }
        d.eq("nobody sews", x.sewn(6, 1, 2, 0), 0);
        x.person(30, 1, 0);
        x.person(30, 1, 0);
        // A LAYER an HOUR: the two with 1 fall first, till in HOUR 2 all three would; then the first ones are sewn.
        rows(x, 2, 1, new int[][] {{0, 0}, {0, 0}, {1, 1}, {1, 1}});
        d.eq("lack", x.lack(2, 1), NONE);
        rows(x, 3, 1, new int[][] {{0, 0, 0}, {0, 0, 1}, {1, 1, 1}, {1, 1, 0}});
        d.eq("lack", x.lack(3, 1), 2);
        rows(x, 4, 1, new int[][] {{0, 0, 0, 0}, {0, 0, 1, 1}, {1, 1, 1, 1}, {1, 1, 0, 0}});
        d.eq("lack", x.lack(4, 1), 2);
        x.person(30, 1, 0);
        rows(x, 4, 1, new int[][] {{0, 0, 0, 0}, {0, 1, 1, 0}, {2, 1, 1, 0}, {1, 1, 1, 1}});
        d.eq("lack", x.lack(4, 1), NONE);
        AcidCity y = new AcidCity();
        y.cell(5);
        y.work(1, 0, 9, 8, 0);
        y.work(1, 0, 9, 9, 0);
        y.person(30, 1, 0);
        y.person(30, 1, 0);
        y.weather(0, 999);
        d.eq("9 at most", y.sewn(1, 9, 0, 0), 1);
        d.eq("9 at most", y.sewn(1, 9, 1, 0), 0);
        d.eq("already below", y.lack(1, 9), 0);
        d.eq("that would not fall: none", y.sewn(1, 0, 0, 0), 0);
        d.eq("8 - 5 is 3", y.lack(1, 3), NONE);
        d.eq("one sewn: 9 - 5 is 4", y.lack(1, 4), NONE);
        d.eq("4 are fewer than 5", y.lack(1, 5), 0);
    }

    private static void rows(AcidCity x, int n, int least, int[][] due) {
        for (int work = 0; work < due.length; work++) {
            for (int i = 0; i < n; i++) {
                d.eq("sewn(" + n + ", " + least + ", " + work + ", " + i + ")", x.sewn(n, least, work, i), due[work][i]);
            }
        }
    }

    private static void fitters() {
        AcidCity x = new AcidCity();
        x.cell(5);
        x.work(1, 0, 9, 1, 0);
        x.weather(0, 999);
        x.person(30, 2, 0);
        x.person(30, 1, 0);
        d.eq("no FITTER", x.be(1, 3, 100), 0);
        d.eq("DEAD", x.sewn(1, 1, 0, 0), 0);
        x.be(1, 3, 51);
        d.eq("SICK 51", x.sewn(1, 1, 0, 0), 0);
        x.be(1, 3, 50);
        d.eq("SICK 50", x.sewn(1, 1, 0, 0), 1);
        x.be(0, 1, 1);
        d.eq("several to one", x.sewn(1, 1, 0, 0), 2);
        d.eq("no CLOTH goes", x.city(12), 0);
        d.eq("nothing is sewn in the city", x.has(0, 5), 1);
    }

    private static void told() {
        AcidCity x = new AcidCity();
        d.eq("takes 4", x.takes(4, 0), BAD);
        d.eq("takes -1", x.takes(-1, 0), BAD);
        d.eq("takes 100", x.takes(0, 100), BAD);
        d.eq("takes below", x.takes(0, -1), BAD);
        d.eq("takes", x.takes(3, 99), 0);
        d.eq("takes was", x.takes(3, 1), 99);
        int[][] bad = {{24, 0, 0}, {-1, 0, 0}, {0, 4, 0}, {0, -1, 0}, {0, 0, 1000}, {0, 0, -1}};
        for (int[] b : bad) {
            d.eq("harm", x.harm(b[0], b[1], b[2]), BAD);
        }
        d.eq("harm", x.harm(23, 3, 999), 0);
        d.eq("harm was", x.harm(23, 3, 1), 999);
    }

    private static void darkness() {
        AcidCity x = new AcidCity();
        int[] takes = {0, 3, 5, 9};
        int[][] harm = {{9, 5, 4, 0}, {9, 6, 4, 0}, {9, 6, 2, 0}};
        for (int l = 0; l < 4; l++) {
            x.takes(l, takes[l]);
            for (int i = 0; i < 3; i++) {
                x.harm(i, l, harm[i][l]);
            }
        }
        // By THE BANK: the LOADS with the least HARM, found by hand.
        loads(x, 3, 0, 27, 0, 0, 0);
        loads(x, 3, 2, 27, 0, 0, 0);
        loads(x, 3, 3, 23, 1, 0, 0);
        loads(x, 3, 5, 20, 0, 0, 2);
        loads(x, 3, 8, 16, 1, 0, 2);
        loads(x, 3, 27, 0, 3, 3, 3);
        loads(x, 3, 300, 0, 3, 3, 3);
        // 9 takes all 9 of THE BANK for 18; 5 and 3 give 16; 3, 3 and 3 give 17.
        loads(x, 3, 9, 16, 1, 0, 2);
        for (int i = 0; i < 24; i++) {
            for (int l = 0; l < 4; l++) {
                x.harm(i, l, 7);
            }
        }
        d.eq("like ones", x.dark(24, 300), 168);
        d.eq("the lesser LOAD", x.load(24, 300, 0), 0);
        x.takes(0, 20);
        x.takes(1, 12);
        x.takes(2, 13);
        x.takes(3, 12);
        // 24 HOURS of 12 take 288; 12 are left over: one 20 (8 more), and four of 13 would be 1 more each.
        d.eq("the first differs at the first HOUR", x.load(24, 300, 0), 0);
        for (int i = 1; i < 24; i++) {
            d.eq("then the lesser ones", x.load(24, 300, i), 1);
        }
    }

    private static void loads(AcidCity x, int n, int bank, int harm, int... due) {
        d.eq("dark(" + n + ", " + bank + ")", x.dark(n, bank), harm);
        for (int i = 0; i < due.length; i++) {
            d.eq("load(" + n + ", " + bank + ", " + i + ")", x.load(n, bank, i), due[i]);
        }
    }

    private static void darkEdges() {
        AcidCity x = new AcidCity();
        d.eq("n 0", x.dark(0, 0), BAD);
        d.eq("n 25", x.dark(25, 0), BAD);
        d.eq("bank -1", x.dark(1, -1), BAD);
        d.eq("bank 301", x.dark(1, 301), BAD);
        d.eq("load n 0", x.load(0, 0, 0), BAD);
        d.eq("load n 25", x.load(25, 0, 0), BAD);
        d.eq("load bank -1", x.load(1, -1, 0), BAD);
        d.eq("load bank 301", x.load(1, 301, 0), BAD);
        d.eq("load i -1", x.load(1, 0, -1), BAD);
        d.eq("load i 1", x.load(1, 0, 1), BAD);
        d.eq("nothing told", x.dark(24, 0), 0);
        for (int l = 0; l < 4; l++) {
            x.takes(l, 13);
        }
        d.eq("23 HOURS", x.dark(23, 299), 0);
        d.eq("24 HOURS", x.dark(24, 300), NONE);
        d.eq("24 HOURS", x.load(24, 300, 0), NONE);
        d.eq("BAD ahead of NONE", x.load(24, 300, 24), BAD);
        d.eq("1 HOUR", x.load(1, 13, 0), 0);
        d.eq("BANK 0", x.load(1, 0, 0), NONE);
        x.takes(2, 12);
        d.eq("one less", x.dark(24, 300), 0);
        d.eq("THE BANK is never below 0", x.dark(1, 11), NONE);
        d.eq("0 is not below 0", x.dark(1, 12), 0);
    }
}
