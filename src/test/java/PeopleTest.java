/** Promises 21 to 37: people and the charter. */
public final class PeopleTest {
    private static final int BAD = AcidCity.BAD, NO = AcidCity.NO, FULL = AcidCity.FULL, NONE = AcidCity.NONE;
    private static final Due d = new Due();

    public static void main(String[] args) {
        persons();
        being();
        births();
        feeding();
        faults();
        goodTexts();
        values();
        names();
        textsFull();
        votes();
        strikes();
        passing();
        latestCounts();
        may();
        shares();
        orders();
        enough();
        d.end();
    }

    private static AcidCity home(int... crafts) {
        AcidCity x = new AcidCity();
        x.cell(50);
        x.air(0, 0, 900000);
        for (int craft : crafts) {
            x.person(30, craft, 0);
        }
        return x;
    }

    private static void persons() {
        AcidCity x = new AcidCity();
        d.eq("no CELL", x.person(30, 0, 0), BAD);
        x.cell(5);
        d.eq("AGE 100", x.person(100, 0, 0), BAD);
        d.eq("AGE -1", x.person(-1, 0, 0), BAD);
        d.eq("CRAFT 4", x.person(1, 4, 0), BAD);
        d.eq("CRAFT -1", x.person(1, -1, 0), BAD);
        d.eq("CELL 1", x.person(1, 1, 1), BAD);
        for (int i = 0; i < 24; i++) {
            d.eq("person", x.person(i == 0 ? 0 : 99, i % 4, 0), i);
        }
        d.eq("the 25th", x.person(1, 1, 0), FULL);
        d.eq("BAD first", x.person(1, 4, 0), BAD);
        d.eq("birth FULL", x.birth(0), FULL);
        d.eq("PEOPLE", x.count(4), 24);
    }

    private static void being() {
        AcidCity x = new AcidCity();
        x.cell(5);
        x.cell(5);
        d.eq("nobody", x.be(0, 0, 1), BAD);
        d.eq("nobody", x.is(0, 0), BAD);
        x.person(40, 2, 1);
        int[] due = {40, 2, 1, 0, 0};
        for (int what = 0; what <= 4; what++) {
            d.eq("is", x.is(0, what), due[what]);
        }
        d.eq("is 5", x.is(0, 5), BAD);
        d.eq("is -1", x.is(0, -1), BAD);
        d.eq("one -1", x.is(-1, 0), BAD);
        int[] most = {99, 3, 1, 100};
        for (int what = 0; what <= 3; what++) {
            d.eq("above", x.be(0, what, most[what] + 1), BAD);
            d.eq("below", x.be(0, what, -1), BAD);
            d.eq("be", x.be(0, what, most[what]), due[what]);
            d.eq("is then", x.is(0, what), most[what]);
        }
        d.eq("be 4", x.be(0, 4, 0), BAD);
        d.eq("be -1", x.be(0, -1, 0), BAD);
        d.eq("one 1", x.be(1, 0, 0), BAD);
        d.eq("DEAD", x.is(0, 4), 1);
        d.eq("DEAD ones", x.count(5), 1);
        d.eq("alive again", x.be(0, 3, 99), 100);
        d.eq("not DEAD", x.is(0, 4), 0);
    }

    private static void births() {
        AcidCity x = home(0);
        d.eq("CELL 1", x.birth(1), BAD);
        d.eq("born", x.birth(0), 1);
        int[] due = {0, 0, 0, 0, 0};
        for (int what = 0; what <= 4; what++) {
            d.eq("newborn", x.is(1, what), due[what]);
        }
        x.work(2, 0, 1, 7, 0);
        x.work(2, 0, 9, 8, 0);
        x.tune(0, 0, 0);
        Say.law(x, "birth o - u > 11 & p < 4");
        d.eq("15 - 3 > 11", x.birth(0), 2);
        d.eq("15 - 4 > 11", x.birth(0), NO);
        d.eq("BAD ahead of NO", x.birth(9), BAD);
        x.be(0, 3, 100);
        d.eq("the DEAD need nothing", x.birth(0), 3);
        x.shed();
        d.eq("GONE GARDEN gives none", x.birth(0), NO);
        Say.law(x, "birth p = 3 & h = 12");
        x.set(0, 129);
        d.eq("p and h", x.birth(0), 4);
        d.eq("p", x.birth(0), NO);
    }

    private static void feeding() {
        AcidCity x = new AcidCity();
        d.eq("trim 1 of 0", x.trim(1), BAD);
        d.eq("trim -1", x.trim(-1), BAD);
        d.eq("trim 0", x.trim(0), 0);
        for (int i = 1; i <= 8; i++) {
            d.eq("feed", x.feed(0x73686172, 0x65206120, 0x2b206320), 12 * i);
        }
        d.eq("feed FULL", x.feed(1, 2, 3), FULL);
        d.eq("bytes", x.count(13), 96);
        d.eq("trim 97", x.trim(97), BAD);
        d.eq("trim 85", x.trim(85), 85);
        d.eq("feed FULL", x.feed(1, 2, 3), FULL);
        d.eq("trim 84", x.trim(84), 84);
        d.eq("feed 96", x.feed(1, 2, 3), 96);
        d.eq("FAULT: behind the + a word of 5", x.text(), -112);
        d.eq("used up", x.count(13), 0);
        x.feed(0x73686172, 0x65206120, 0x2b206320);
        d.eq("text", x.text(), 0);
        d.eq("used up", x.count(13), 0);
    }

    private static void fault(String s, int place) {
        AcidCity x = new AcidCity();
        d.eq("'" + s + "'", Say.text(x, s), -100 - place);
        d.eq("no TEXT of '" + s + "'", x.count(6), 0);
        d.eq("used up", x.count(13), 0);
    }

    private static void faults() {
        fault("", 0);
        fault("   ", 3);
        fault("  5", 2);
        fault("Share a", 0);
        fault("(", 0);
        fault(" shares a", 1);
        fault("shar a", 0);
        fault("share", 5);
        fault("share  ", 7);
        fault("share5", 5);
        fault("share)", 5);
        fault("share -1", 6);
        fault("share aa", 6);
        fault("share a a", 8);
        fault("share 5a", 7);
        fault("share z", 6);
        fault("sharez", 0);
        fault("share az", 6);
        fault("share 5 5", 8);
        fault("share 12345", 6);
        fault("share a+", 8);
        fault("share a+ ", 9);
        fault("share a++a", 8);
        fault("share a!", 7);
        fault("share a(", 7);
        fault("share a)", 7);
        fault("share ()", 7);
        fault("share (a", 8);
        fault("share (a ", 9);
        fault("share (a))", 9);
        fault("share !", 7);
        fault("share a<c=s", 9);
        fault("share a<c+s>1", 11);
        fault("share a<!c<1", 10);
        fault("share a==c", 8);
        fault("share a|&c", 8);
        fault("share a&", 8);
        fault("share A", 6);
        fault("share a,c", 7);
        fault("share a" + (char) 0, 7);
        fault("share a" + (char) 9, 7);
        fault("share a" + (char) 225, 7);
        fault("share (((((((((a)))))))))", 14);
        fault("share !!!!!!!!!a", 14);
        fault("share !(!(!(!(!(!(!(!(!a))))))))", 22);
        fault("share !((((((((!!!!!!!!a", 22);
        fault("share open", 6);
        // Names that stand in another KEY.
        fault("share n", 6);
        fault("vote n", 5);
        fault("vote p", 5);
        fault("open m", 5);
        fault("shed a", 5);
        fault("birth a", 6);
        fault("birth e", 6);
        fault("pass a", 5);
        fault("pass p", 5);
    }

    private static void good(String s, int key, int leaves) {
        AcidCity x = new AcidCity();
        d.eq("'" + s + "'", Say.text(x, s), 0);
        d.eq("KEY of '" + s + "'", x.of(0, 0), key);
        d.eq("FORCE of '" + s + "'", x.of(0, 1), NONE);
        d.eq("struck of '" + s + "'", x.of(0, 2), NONE);
        d.eq("NUMBERS and NAMES of '" + s + "'", x.of(0, 3), leaves);
        d.eq("what 4", x.of(0, 4), BAD);
        d.eq("what -1", x.of(0, -1), BAD);
        d.eq("TEXT 1", x.of(1, 0), BAD);
        d.eq("TEXT -1", x.of(-1, 0), BAD);
    }

    private static void goodTexts() {
        good("share 1", 0, 1);
        good("  share  0001  ", 0, 1);
        good("share(a+c)*s-h", 0, 4);
        good("open!a", 1, 1);
        good("open a|c&s<n+h*2", 1, 6);
        good("shed k+m+g+l+f+p+h", 2, 7);
        good("birth p+o+u+h", 3, 4);
        good("vote a+c+s+h", 4, 4);
        good("pass y+n+e+h", 5, 4);
        good("share ((((((((a))))))))", 0, 1);
        good("share ((((((((a))))))))+((((((((a))))))))", 0, 2);
        good("share !!!!!!!!a", 0, 1);
        good("share !!!!!!!!a+!!!!!!!!a", 0, 2);
        good("share !!!!!!!!((((((((a))))))))", 0, 1);
        good("share (a<c)<(s>h)", 0, 4);
        good("share a<c&s=h|1>2", 0, 6);
        good("share 9999", 0, 1);
        good("share 0", 0, 1);
        good("share 90", 0, 1);
        good("open(" + "1+".repeat(44) + "1) ", 1, 45);
    }

    /** What a PERSON of AGE 7, CRAFT 3, SICK 0 at LEVEL 30 has by an E. */
    private static void value(String e, int due) {
        AcidCity x = new AcidCity();
        x.cell(9);
        x.air(0, 0, 9000);
        x.person(7, 3, 0);
        Say.law(x, "share " + e);
        x.set(0, 300);
        x.be(0, 3, 0);
        // A second one whose part is 1, whatever it is for the first: the share tells the part.
        x.person(50, 0, 0);
        x.be(1, 3, 0);
        int part = x.share(0, 9999) == 0 ? 0 : 1;
        d.eq("E '" + e + "'", part, due);
    }

    /** The same E twice, compared with a number, so that the value itself shows. */
    private static void equal(String e, int due) {
        value("(" + e + ")=" + (due < 0 ? "0-" + -due : due) + "&a=7", 1);
    }

    private static void values() {
        equal("7-2-1", 4);
        equal("7-(2-1)", 6);
        equal("100/7/2", 7);
        equal("100/(7/2)", 33);
        equal("2+3*4", 14);
        equal("(2+3)*4", 20);
        equal("7/2*2", 6);
        equal("(0-7)/2", -3);
        equal("5/0", 0);
        equal("0/0", 0);
        equal("1<2", 1);
        equal("2<2", 0);
        equal("2=2", 1);
        equal("2>2", 0);
        equal("3>2", 1);
        equal("1+1=2", 1);
        equal("2&1", 1);
        equal("2&0", 0);
        equal("0|5", 1);
        equal("0|0", 0);
        equal("1|1&0", 1);
        equal("(1|1)&0", 0);
        equal("0=1&0", 0);
        equal("!0", 1);
        equal("!5", 0);
        equal("!!5", 1);
        equal("!0+1", 2);
        equal("!(0+1)", 0);
        equal("!0*3", 3);
        equal("a", 7);
        equal("c", 3);
        equal("h", 30);
        equal("s", 0);
        equal("a*c+h", 51);
        // Ints wrap: 65536 times 65536 is 0, 46341 times 46341 below 0.
        equal("(8192*8)*(8192*8)", 0);
        equal("(9268*5+1)*(9268*5+1)<0", 1);
        // The least int by -1 is itself.
        equal("((8192*8)*(8192*4))/(0-1)<0", 1);
    }

    private static void names() {
        AcidCity x = new AcidCity();
        x.cell(9);
        x.cell(9);
        x.air(0, 0, 90000);
        x.air(1, 0, 90000);
        x.person(30, 0, 1);
        x.person(30, 0, 1);
        x.person(30, 0, 1);
        x.work(1, 0, 500, 4, 300);
        x.work(5, 1, 400, 0, 999);
        x.work(2, 1, 300, 9, 0);
        x.tune(2, 1, 50);
        x.be(2, 3, 100);
        Say.law(x, "shed g");
        d.eq("g of a SKIN", x.order(0), 0);
        d.eq("g of a PATCH and of others is 0", x.order(1), NONE);
        Say.law(x, "shed l = 4");
        d.eq("l", x.order(0), 0);
        d.eq("l of others is 0", x.order(1), NONE);
        Say.law(x, "shed k");
        d.eq("k", x.order(0), 1);
        d.eq("k", x.order(1), 2);
        d.eq("k", x.order(2), 0);
        Say.law(x, "shed p = 2");
        d.eq("p", x.order(0), 1);
        d.eq("p", x.order(1), 2);
        d.eq("p of an empty CELL", x.order(2), NONE);
        Say.law(x, "shed f");
        d.eq("f", x.order(0), 2);
        d.eq("f", x.order(1), NONE);
        Say.law(x, "shed m > 399");
        d.eq("m", x.order(1), 1);
        d.eq("m", x.order(2), NONE);
        Say.law(x, "shed h = 25");
        x.set(0, 259);
        d.eq("h", x.order(2), 2);
        x.set(0, 260);
        d.eq("h", x.order(0), NONE);
    }

    private static void textsFull() {
        AcidCity x = new AcidCity();
        for (int i = 0; i < 12; i++) {
            d.eq("text", Say.text(x, "share " + i), i);
        }
        d.eq("the 13th", Say.text(x, "share 12"), FULL);
        d.eq("used up", x.count(13), 0);
        d.eq("FAULT ahead of FULL", Say.text(x, "share"), -105);
        d.eq("TEXTS", x.count(6), 12);
    }

    private static void votes() {
        AcidCity x = home(1, 2, 3);
        d.eq("no TEXT", x.hold(0), BAD);
        d.eq("no VOTE", x.tally(), NO);
        d.eq("no VOTE", x.say(0, 1), NO);
        Say.text(x, "share 1");
        Say.text(x, "share 2");
        d.eq("hold -1", x.hold(-1), BAD);
        d.eq("hold 2", x.hold(2), BAD);
        d.eq("hold", x.hold(1), 0);
        d.eq("a VOTE", x.count(14), 1);
        d.eq("hold another", x.hold(0), NO);
        d.eq("BAD first", x.hold(2), BAD);
        d.eq("say 2", x.say(0, 2), BAD);
        d.eq("say -1", x.say(0, -1), BAD);
        d.eq("say of none", x.say(3, 1), BAD);
        d.eq("yes", x.say(0, 1), 1);
        d.eq("no", x.say(1, 0), 1);
        d.eq("again", x.say(1, 0), NO);
        d.eq("again", x.say(1, 1), NO);
        d.eq("as many yes as no", x.tally(), 0);
        d.eq("no VOTE", x.count(14), 0);
        d.eq("not in FORCE", x.of(1, 1), NONE);
        d.eq("put again", x.hold(1), 0);
        d.eq("yes", x.say(0, 1), 1);
        d.eq("yes", x.say(2, 1), 2);
        x.be(1, 3, 100);
        d.eq("DEAD", x.say(1, 0), NO);
        x.be(1, 3, 0);
        d.eq("no", x.say(1, 0), 1);
        d.eq("passed", x.tally(), 1);
        d.eq("the next HOUR", x.of(1, 1), 1);
        d.eq("not yet", x.why(0), NONE);
        d.eq("not yet", x.count(7), 0);
        x.run(59);
        d.eq("not yet", x.why(0), NONE);
        x.run(1);
        d.eq("in FORCE", x.why(0), 1);
        d.eq("in FORCE", x.count(7), 1);
        d.eq("nobody says", x.hold(0), 0);
        d.eq("it does not pass", x.tally(), 0);
    }

    private static void strikes() {
        AcidCity x = home(1, 2);
        Say.text(x, "share a");
        x.hold(0);
        x.say(0, 1);
        x.tally();
        d.eq("it passed once, though it is not in FORCE yet", x.hold(0), 1);
        d.eq("no", x.say(0, 0), 1);
        d.eq("not struck", x.tally(), 0);
        d.eq("not struck", x.of(0, 2), NONE);
        x.run(70);
        d.eq("in FORCE", x.why(0), 0);
        d.eq("to strike", x.hold(0), 1);
        x.say(1, 1);
        d.eq("struck", x.tally(), 1);
        d.eq("from the next HOUR", x.of(0, 2), 2);
        d.eq("FORCE as it was", x.of(0, 1), 1);
        d.eq("will be struck", x.hold(0), NO);
        d.eq("till then", x.why(0), 0);
        d.eq("till then", x.count(7), 1);
        x.run(49);
        d.eq("till then", x.why(0), 0);
        x.run(1);
        d.eq("struck", x.why(0), NONE);
        d.eq("struck", x.count(7), 0);
        d.eq("is struck", x.hold(0), NO);
    }

    private static void passing() {
        AcidCity x = home(1, 2, 2, 2);
        Say.law(x, "vote c = 2");
        d.eq("may not", x.may(0, 1, 0), 0);
        Say.law(x, "pass y * 3 > e * 2 & n < 2 & h > 0");
        Say.text(x, "share 1");
        x.set(0, 300);
        x.hold(2);
        d.eq("may not", x.say(0, 1), NO);
        d.eq("yes", x.say(1, 1), 1);
        d.eq("yes", x.say(2, 1), 2);
        d.eq("2 of 3 are not more than two thirds", x.tally(), 0);
        x.hold(2);
        x.say(1, 1);
        x.say(2, 1);
        x.be(3, 3, 100);
        d.eq("2 of 2", x.tally(), 1);
        d.eq("in FORCE from", x.of(2, 1), x.city(6) / 60 + 1);
        Say.text(x, "share 2");
        x.be(0, 1, 2);
        x.hold(3);
        x.say(0, 0);
        x.say(1, 0);
        d.eq("two noes", x.tally(), 0);
        x.be(0, 1, 2);
        x.hold(3);
        x.say(0, 1);
        x.say(1, 1);
        x.be(0, 1, 0);
        x.be(1, 1, 0);
        d.eq("who said so still has, though 1 may vote now", x.tally(), 1);
        d.eq("E not 0 is so, below 0 too", Say.law(x, "pass 0 - 1"), 4);
        AcidCity z = home(0, 0, 0);
        Say.law(z, "pass n = 2 & y = 1 & h = 44");
        Say.text(z, "share 1");
        z.set(0, 445);
        z.hold(1);
        z.say(0, 1);
        z.say(1, 0);
        d.eq("n 1", z.tally(), 0);
        z.hold(1);
        z.say(0, 1);
        z.say(1, 0);
        z.say(2, 0);
        d.eq("n 2, y 1", z.tally(), 1);
    }

    private static void latestCounts() {
        AcidCity x = home(1);
        for (int i = 0; i < 4; i++) {
            Say.text(x, "share " + i);
        }
        int[] both = {2, 1};
        for (int t : both) {
            x.hold(t);
            x.say(0, 1);
            x.tally();
        }
        x.run(60);
        d.eq("of one HOUR the greater number", x.why(0), 2);
        x.hold(0);
        x.say(0, 1);
        x.tally();
        d.eq("not yet", x.why(0), 2);
        x.run(60);
        d.eq("the one that came last", x.why(0), 0);
        x.hold(0);
        x.say(0, 1);
        x.tally();
        x.run(60);
        d.eq("struck: the one ahead of it", x.why(0), 2);
        d.eq("in FORCE", x.count(7), 2);
        d.eq("key 6", x.why(6), BAD);
        d.eq("key -1", x.why(-1), BAD);
        for (int key = 1; key <= 5; key++) {
            d.eq("another KEY", x.why(key), NONE);
        }
    }

    private static void may() {
        AcidCity x = home(1, 2);
        x.cell(5);
        x.lock(0, 1, 1);
        x.lock(0, 1, 1);
        d.eq("open", x.may(0, 0, 0), 1);
        d.eq("vote", x.may(0, 1, -5), 1);
        d.eq("be born", x.may(-7, 2, -7), 1);
        d.eq("what 3", x.may(0, 3, 0), BAD);
        d.eq("what -1", x.may(0, -1, 0), BAD);
        d.eq("one 2", x.may(2, 0, 0), BAD);
        d.eq("one 2", x.may(2, 1, 0), BAD);
        d.eq("LOCK 2", x.may(0, 0, 2), BAD);
        d.eq("LOCK -1", x.may(0, 0, -1), BAD);
        Say.law(x, "open n * 5 - 5 + s");
        d.eq("open 0", x.may(0, 0, 0), 1);
        d.eq("open 1", x.may(0, 0, 1), 0);
        x.be(0, 3, 4);
        d.eq("open 1, SICK", x.may(0, 0, 1), 1);
        Say.law(x, "vote a > 29 & c = 1");
        d.eq("vote", x.may(0, 1, 0), 1);
        d.eq("vote", x.may(1, 1, 0), 0);
        Say.law(x, "birth p > 2");
        d.eq("be born", x.may(0, 2, 0), 0);
        x.be(0, 3, 100);
        d.eq("DEAD", x.may(0, 0, 0), BAD);
        d.eq("DEAD", x.may(0, 1, 0), BAD);
        d.eq("born, whoever asks", x.may(0, 2, 0), 0);
    }

    private static void shares() {
        AcidCity x = home(0, 0, 0);
        d.eq("1 each", x.share(0, 8), 3);
        d.eq("1 each", x.share(1, 8), 3);
        d.eq("1 each", x.share(2, 8), 2);
        d.eq("0", x.share(0, 0), 0);
        d.eq("-1", x.share(0, -1), BAD);
        d.eq("1000000", x.share(0, 1000000), BAD);
        d.eq("one 3", x.share(3, 1), BAD);
        x.be(0, 3, 100);
        d.eq("DEAD", x.share(0, 8), NO);
        d.eq("BAD first", x.share(0, -1), BAD);
        d.eq("half", x.share(1, 8), 4);
        x.be(0, 3, 0);
        x.person(0, 0, 0);
        x.be(0, 0, 0);
        x.be(1, 0, 1);
        x.be(2, 0, 2);
        Say.law(x, "share a");
        d.eq("no part", x.share(0, 8), 0);
        d.eq("8 / 3, the first of those with parts", x.share(1, 8), 3);
        d.eq("16 / 3", x.share(2, 8), 5);
        d.eq("no part", x.share(3, 8), 0);
        Say.law(x, "share a - 1");
        d.eq("below 0 is 0", x.share(1, 8), 0);
        d.eq("all", x.share(2, 8), 8);
        Say.law(x, "share 0");
        d.eq("nobody", x.share(2, 8), 0);
        Say.law(x, "share (a = 2) * 9999 * 9 + (a = 1) * 9999");
        d.eq("9999 at most", x.share(1, 999999), 500000);
        d.eq("9999 at most", x.share(2, 999999), 499999);
        Say.law(x, "share (a = 2) * 9999 * 9 + (a = 1)");
        d.eq("1 of 10000", x.share(1, 10000), 1);
        d.eq("9999 of 10000", x.share(2, 10000), 9999);
    }

    private static void orders() {
        AcidCity x = home(0);
        d.eq("none", x.order(0), NONE);
        d.eq("none", x.shed(), NO);
        d.eq("-1", x.order(-1), BAD);
        x.work(0, 0, 5, 0, 0);
        x.work(1, 0, 9, 9, 40);
        x.work(6, 0, 9, 99999, 0);
        x.work(0, 0, 7, 0, 0);
        x.drop(2);
        int[] due = {1, 2, 3, 0, NONE, NONE};
        for (int i = 0; i < due.length; i++) {
            d.eq("order", x.order(i), due[i]);
        }
        d.eq("far", x.order(Integer.MAX_VALUE), NONE);
        Say.law(x, "shed 6 - m");
        d.eq("those above 0", x.order(0), 0);
        d.eq("never with 0 or below", x.order(1), NONE);
        d.eq("shed", x.shed(), 0);
        d.eq("GONE", x.has(0, 8), 1);
        d.eq("none", x.shed(), NO);
        Say.law(x, "shed l");
        d.eq("the SKIN", x.shed(), 1);
        d.eq("GAS OUT", x.told(0, 11), 40);
        d.eq("in all OUT", x.city(7), 40);
        d.eq("GONE ones", x.count(3), 2);
        d.eq("order behind them", x.order(0), NONE);
    }

    private static void enough() {
        AcidCity x = new AcidCity();
        x.cell(9);
        d.eq("0 is 0", x.enough(), 0);
        x.work(0, 0, 100, 0, 0);
        x.work(0, 0, 60, 0, 0);
        x.work(1, 0, 80, 9, 20);
        x.work(6, 0, 90, 1, 0);
        x.drop(3);
        // LIFT 108; WEIGHT 240; in order 100, the PROBE (weighs nothing), the SKIN (80, its LIFT goes), 60.
        d.eq("100, 90, 80, 60", x.enough(), 4);
        d.eq("nothing was shed", x.count(3), 0);
        Say.law(x, "shed k = 0");
        x.person(30, 0, 0);
        Say.law(x, "shed (k = 0) * m");
        x.set(0, 300);
        x.be(0, 3, 100);
        x.air(0, 0, 0);
        x.air(0, 1, 0);
        x.air(0, 2, 0);
        d.eq("100, then 60: LIFT 108 and WEIGHT 80", x.enough(), 2);
        x.store(0, 2900);
        d.eq("WEIGHT 109", x.enough(), NO);
        x.store(0, 2800);
        d.eq("WEIGHT 108", x.enough(), 2);
    }
}
