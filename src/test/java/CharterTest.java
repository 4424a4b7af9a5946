/** The document's Terms, part 3: each sentence that names an edge has a run of calls of its own. */
public final class CharterTest {
    private static final Due d = new Due();
    /** Somebody of 30 years without a CRAFT, with air for days. */
    private static final String ONE = "cell(9); air(0,0,99999); person(30,0,0); ";

    public static void main(String[] args) {
        tape();
        keys();
        words();
        grammar();
        depths();
        ends();
        signs();
        names();
        values();
        comparing();
        votes();
        voters();
        force();
        striking();
        counting();
        may();
        shares();
        sheds();
        d.end();
    }

    private static void t(String sentence, String... runs) {
        Run.holds(d, sentence, runs);
    }

    private static void fault(String sentence, String text, int place) {
        t(sentence, "text(\"" + text + "\")=" + (-100 - place) + "; count(6)=0; count(13)=0");
    }

    private static void good(String sentence, String text, int key, int leaves) {
        t(sentence, "text(\"" + text + "\")=0; of(0,0)=" + key + "; of(0,3)=" + leaves + "; count(13)=0");
    }

    private static void tape() {
        t("THE TAPE (96 bytes at most)", "feed(0,0,0)=12; 6*feed(0,0,0); feed(0,0,0)=96; feed(0,0,0)=FULL;"
                + "count(13)=96; trim(85)=85; feed(0,0,0)=FULL; count(13)=85; trim(84)=84; feed(0,0,0)=96");
        t("the highest of each number first", "feed(1936220530,1696608562,0)=12; trim(8); text()=0; of(0,3)=1");
        t("an act that reads it uses it up, whatever it answers", "tape(\"share 1\"); count(13)=7; text()=0;"
                + "count(13)=0; text()=-100; tape(\"x\"); text()=-100; count(13)=0",
                "text(\"share 1\")=0; text(\"share 1\")=1; text(\"share 1\")=2; text(\"share 1\")=3;"
                + "text(\"share 1\")=4; text(\"share 1\")=5; text(\"share 1\")=6; text(\"share 1\")=7;"
                + "text(\"share 1\")=8; text(\"share 1\")=9; text(\"share 1\")=10; text(\"share 1\")=11;"
                + "text(\"share 1\")=FULL; count(13)=0; count(6)=12; text(\"share\")=-105; text(\"\")=-100; of(11,0)=0;"
                + "of(12,0)=BAD");
        String longest = "1+".repeat(44);
        good("a TEXT of 96 bytes", "share " + longest + "11", 0, 45);
        fault("a TEXT of 96 bytes that ends too soon", "share " + longest + "1+", 96);
        good("a TEXT of 96 bytes whose last is a NAME", "share " + longest + " a", 0, 45);
        good("a TEXT of 96 bytes whose last is )", "share (" + "1+".repeat(43) + "a )", 0, 44);
        t("THE TAPE keeps its first n bytes", "tape(\"share acc\"); trim(7); text()=0; of(0,3)=1;"
                + "tape(\"share 11111\"); trim(10); text()=1; tape(\"share 1 1\"); trim(8); text()=2;"
                + "tape(\"shareshare 1\"); trim(5); text()=-105; tape(\"share a+1\"); trim(8); text()=-108;"
                + "tape(\"share a\"); trim(7)=7; trim(8)=BAD; trim(-1)=BAD; trim(0)=0; count(13)=0; trim(1)=BAD;"
                + "text()=-100");
        t("a FAULT leaves nothing behind", ONE + "text(\"share !!!!!!!!\")=-114; text(\"share !!!!!!!!a\")=0;"
                + "text(\"share (((((((( \")=-115; text(\"share ((((((((a))))))))\")=1; text(\"share a+\")=-108;"
                + "text(\"share 1<\")=-108; text(\"share 1<2\")=2; text(\"share !\")=-107; law(\"share a\")=3;"
                + "of(3,3)=1; share(0,5)=5");
        t("nor does the TEXT ahead of it", "cell(9); air(0,0,9999); person(5,0,0); person(10,0,0);"
                + "text(\"share !!a\")=0; law(\"share a\")=1; share(0,9)=3; share(1,9)=6;"
                + "text(\"share !!(a+c+s+h)\")=2; law(\"share a+a\")=3; of(3,3)=2; share(0,9)=3; share(1,9)=6");
        good("blanks up to the end", "share 1" + " ".repeat(89), 0, 1);
        fault("96 blanks", " ".repeat(96), 96);
    }

    private static void keys() {
        String[] all = {"share", "open", "shed", "birth", "vote", "pass"};
        for (int k = 0; k < all.length; k++) {
            good("KEY " + all[k], all[k] + " 1", k, 1);
            fault("a KEY alone: the end comes too soon", all[k], all[k].length());
            fault("a KEY and blanks: the end comes too soon", all[k] + "  ", all[k].length() + 2);
            fault("no KEY: one letter less", all[k].substring(1) + " 1", 0);
            fault("no KEY: one letter more", all[k] + "s 1", 0);
            fault("no KEY: a great letter", (char) (all[k].charAt(0) - 32) + all[k].substring(1) + " 1", 0);
            fault("no KEY: the first letter another one", "z" + all[k].substring(1) + " 1", 0);
            fault("no KEY: the last letter another one", all[k].substring(0, all[k].length() - 1) + "z 1", 0);
            fault("a digit right behind the KEY needs a blank", all[k] + "1", all[k].length());
            good("a ( right behind the KEY needs none", all[k] + "(1)", k, 1);
            good("a ! right behind the KEY needs none", all[k] + "!1", k, 1);
        }
        fault("no TEXT without a KEY", "1", 0);
        fault("no TEXT without a KEY", "  (1)", 2);
        fault("a KEY is no NAME", "share share", 6);
        fault("THE TAPE is empty: the end comes too soon", "", 0);
    }

    private static void words() {
        good("between words and signs, and at the ends, there may be blanks", "  share  (  a  +  1  )  *  !  2  ",
                0, 3);
        good("none are needed between words and signs", "share(a+1)*!2", 0, 3);
        fault("a word is a row of letters, as long as it goes", "share ac", 6);
        fault("a word right behind another one", "share 1a", 7);
        fault("a word right behind another one", "share a1", 7);
        fault("a word behind a word", "share a c", 8);
        fault("a word behind a word", "share 1 2", 8);
        good("a NUMBER of 1 digit", "share 0", 0, 1);
        good("a NUMBER of 4 digits", "share 9999", 0, 1);
        good("a NUMBER of 4 digits", "share 0000", 0, 1);
        fault("a NUMBER of more than 4 digits", "share 10000", 6);
        fault("a NUMBER of more than 4 digits", "share 00000", 6);
        fault("a NUMBER of more than 4 digits", "share 1+99999", 8);
        t("a NUMBER by its digits", ONE + "law(\"share (9999=5000+4999)&(0012=12)&(0000=0)\"); share(0,5)=5");
    }

    private static void grammar() {
        for (String sign : new String[] {"|", "&", "<", "=", ">", "+", "-", "*", "/"}) {
            good("a sign between two PARTS", "share a" + sign + "c", 0, 2);
            fault("a sign ahead of the first PART", "share " + sign + "c", 6);
            fault("a sign behind the last PART: the end comes too soon", "share a" + sign, 8);
            fault("a sign behind a sign", "share a" + sign + sign + "c", 8);
            fault("a sign behind (", "share (" + sign + "c)", 7);
            fault("a sign ahead of )", "share (a" + sign + ")", 9);
            fault("a sign behind !", "share !" + sign + "c", 7);
        }
        for (String one : new String[] {"<", "=", ">"}) {
            for (String other : new String[] {"<", "=", ">"}) {
                fault("TEST: SUM [ (< | = | >) SUM ]: one at most", "share a" + one + "c" + other + "s", 9);
                fault("TEST: one at most, behind a SUM", "share a" + one + "c+1*2" + other + "s", 13);
                good("one more in ( )", "share (a" + one + "c)" + other + "s", 0, 3);
                good("one more in ( ) behind it", "share a" + one + "(c" + other + "s)", 0, 3);
                good("one more behind &", "share a" + one + "c&s" + other + "h", 0, 4);
                good("one more behind |", "share a" + one + "c|s" + other + "h", 0, 4);
                fault("one too many behind ( )", "share a" + one + "(c)" + other + "s", 11);
                fault("one too many behind !", "share a" + one + "!c" + other + "s", 10);
            }
        }
        fault("( E ): none within", "share ()", 7);
        fault("( E ): not closed", "share (a", 8);
        fault("( E ): closed twice", "share (a))", 9);
        fault("closed, not opened", "share a)", 7);
        fault("closed, not opened", "share )", 6);
        fault("( behind a PART", "share a(c)", 7);
        fault("( behind )", "share (a)(c)", 9);
        fault("a word behind )", "share (a)c", 9);
        fault("! behind a PART", "share a!c", 7);
        fault("! behind )", "share (a)!c", 9);
        fault("! without a PART", "share !", 7);
        fault("! ahead of )", "share (!)", 8);
        fault("no sign of its own: - ahead of a NUMBER", "share a*-1", 8);
    }

    private static void depths() {
        String eight = "((((((((";
        String nots = "!!!!!!!!";
        good("eight ( may be open within others", "share " + eight + "a))))))))", 0, 1);
        fault("the ninth ( that would be open within others", "share (" + eight + "a)))))))))", 14);
        good("eight once more behind them", "share " + eight + "a))))))))+" + eight + "c))))))))", 0, 2);
        fault("a ninth ( behind closed ones", "share (((((((((a", 14);
        good("one closed makes room for one", "share ((((((((a)+(c))))))))", 0, 2);
        good("eight ! within others", "share " + nots + "a", 0, 1);
        fault("the ninth ! likewise", "share !" + nots + "a", 14);
        good("eight ! once more behind them", "share " + nots + "a*" + nots + "c", 0, 2);
        fault("the ninth ! through ( )", "share " + nots + "(!a)", 15);
        fault("the ninth ! through ( )", "share !(!(!(!(!(!(!(!(!a))))))))", 22);
        fault("the ninth ! behind a sign within ( )", "share " + nots + "(a+!c)", 17);
        good("a ! behind ( ) is not within", "share " + nots + "(a)+!c", 0, 2);
        good("each by itself: eight of both", "share !(!(!(!(!(!(!(!(a))))))))", 0, 1);
        good("each by itself: eight of both", "share " + eight + nots + "a))))))))", 0, 1);
        good("each by itself: eight of both", "share " + nots + eight + "a))))))))", 0, 1);
        fault("the ninth ( behind eight !", "share " + nots + "(" + eight + "a", 22);
    }

    private static void ends() {
        fault("the end, if it comes too soon", "share a+", 8);
        fault("the end is the place behind the last byte", "share a+   ", 11);
        fault("the end with a ( open", "share (a+1", 10);
        fault("the end with a ( open", "share (a+1  ", 12);
        fault("the first byte of the first word", "share a+zzz+(((", 8);
        fault("blanks ahead of it", "share a +   zz", 12);
    }

    private static void signs() {
        for (int sign = 0; sign < 256; sign++) {
            boolean letter = sign >= 'a' && sign <= 'z';
            if (sign != ' ' && !letter && "|&<=>+-*/".indexOf(sign) < 0) {
                byteFault("any other byte is a sign by itself", "share a" + (char) sign, 7);
            }
            if (sign != ' ' && !letter && sign != '(' && sign != '!' && (sign < '0' || sign > '9')) {
                byteFault("no PART begins with it", "share a+" + (char) sign, 8);
            }
            if (sign != ' ' && !letter) {
                byteFault("no KEY begins with it", (char) sign + "share a", 0);
            }
        }
        byteFault("a byte that is a letter but for its highest bit", "share " + (char) ('a' + 128), 6);
        byteFault("a byte that is a blank but for its highest bit", "share" + (char) 160 + "a", 5);
    }

    /** Bytes of all kinds, which a run of calls as a text can't hold. */
    private static void byteFault(String sentence, String text, int place) {
        AcidCity x = new AcidCity();
        d.eq(sentence + ": '" + text + "'", Say.text(x, text), -100 - place);
    }

    private static void names() {
        String[] all = {"share", "open", "shed", "birth", "vote", "pass"};
        String[] own = {"acsh", "acsnh", "kmglfph", "pouh", "acsh", "yneh"};
        for (int k = 0; k < all.length; k++) {
            for (char name = 'a'; name <= 'z'; name++) {
                if (own[k].indexOf(name) >= 0) {
                    good("NAMES of " + all[k], all[k] + " " + name, k, 1);
                } else {
                    fault("no NAME of " + all[k], all[k] + " " + name, all[k].length() + 1);
                }
            }
        }
        t("p how many PEOPLE, not DEAD, are in its CELL", "cell(9); cell(9); air(0,0,99999); person(30,0,0);"
                + "person(30,0,0); person(30,0,1); be(1,3,100); work(0,0,1,0,0); work(0,1,1,0,0); be(2,2,0);"
                + "law(\"shed p\"); be(2,2,1); order(0)=0; order(1)=1; be(2,2,0); order(0)=0; order(1)=NONE;"
                + "be(0,3,100); be(2,3,100); order(0)=NONE");
        t("GAS, LAYERS (0 of PATCHES, and of what is no SKIN)", ONE + "work(1,0,1,9,9); work(5,0,1,0,999);"
                + "work(2,0,1,9,0); work(6,0,1,99,0); law(\"shed g+l\"); order(0)=0; order(1)=NONE;"
                + "law(\"shed 1+g+l\"); order(1)=1; order(2)=2; order(3)=3",
                ONE + "work(1,0,1,9,9); work(5,0,1,0,999); work(2,0,1,9,0); law(\"shed (g=0)*2+(l=0)\"); order(0)=1;"
                + "order(1)=2; order(2)=NONE");
        t("o RATES of all GARDENS that are not GONE together", ONE + "work(2,0,9,99,0); work(2,0,8,98,0);"
                + "work(3,0,7,97,0); tune(0,0,0); law(\"birth o=197\"); may(0,2,0)=1; shed()=0; may(0,2,0)=0;"
                + "law(\"birth o=98\"); may(0,2,0)=1");
        t("u NEEDS of all PEOPLE who are not DEAD", ONE + "person(11,0,0); person(12,0,0); law(\"birth u=5&p=3\");"
                + "may(0,2,0)=1; be(0,3,100); may(0,2,0)=0; law(\"birth u=3&p=2\"); may(0,2,0)=1");
        t("of all h the LEVEL", ONE + "law(\"vote h=60\"); set(0,600); may(0,1,0)=1; set(0,599); may(0,1,0)=0",
                ONE + "law(\"open h=0\"); cell(9); lock(0,1,1); set(0,9); may(0,0,0)=1; set(0,10); may(0,0,0)=0",
                ONE + "law(\"share h=5\"); set(0,59); share(0,7)=7; set(0,60); share(0,7)=0",
                ONE + "law(\"birth h=5\"); set(0,59); may(0,2,0)=1; set(0,60); may(0,2,0)=0",
                ONE + "law(\"pass h=5\"); text(\"share 1\"); set(0,60); hold(1); tally()=0; set(0,59); hold(1);"
                + "tally()=1",
                ONE + "law(\"pass h=5\"); text(\"share 1\"); be(0,3,100); set(0,60); hold(1); tally()=0; set(0,59);"
                + "hold(1); tally()=1",
                ONE + "work(0,0,1,0,0); law(\"shed h=5\"); set(0,60); order(0)=NONE; set(0,59); order(0)=0");
    }

    /** E has a value, as a share of all or of nothing tells. */
    private static void value(String sentence, String e, int due) {
        String number = due < 0 ? "0-" + -due : "" + due;
        t(sentence, ONE + "be(0,0,7); be(0,1,3); law(\"share (" + e + ")=" + number + "\"); share(0,5)=5",
                ONE + "be(0,0,7); be(0,1,3); law(\"share !((" + e + ")=" + number + ")\"); share(0,5)=0");
    }

    private static void values() {
        value("/ is 0 by 0", "5/0", 0);
        value("/ is 0 by 0", "(0-5)/0", 0);
        value("/ is 0 by 0", "0/0", 0);
        value("/ is 0 by 0, the rest goes on", "9/(a-7)+4", 4);
        value("/ cuts towards 0", "(0-9)/2", -4);
        value("/ cuts towards 0", "9/(0-2)", -4);
        value("/ cuts towards 0", "1/2", 0);
        value("Ints wrap", "8192*8192*32+8192*8192*32", 0);
        value("Ints wrap", "(8192*8192*32-1)/8192/8192", 31);
        value("Ints wrap: the greatest and 1", "(8192*8192*32-1+1)<0", 1);
        value("Ints wrap: the least less 1", "(8192*8192*32-1)>0", 1);
        value("Ints wrap: the least by -1 is itself", "(8192*8192*32)/(0-1)=8192*8192*32", 1);
        value("Ints wrap in *", "9999*9999*9999/1000/1000", 9999 * 9999 * 9999 / 1000 / 1000);
        value("from the left", "7-2-1", 4);
        value("from the left", "100/5/2", 10);
        value("from the left", "100/5*2", 40);
        value("* and / bind tighter than + and -", "2+3*4-6/2", 11);
        value("( ) bind tightest", "(2+3)*(4-6)/2", -5);
    }

    private static void comparing() {
        value("tests give 1 or 0", "2<3", 1);
        value("tests give 1 or 0", "3<3", 0);
        value("tests give 1 or 0", "3=3", 1);
        value("tests give 1 or 0", "3=4", 0);
        value("tests give 1 or 0", "3>2", 1);
        value("tests give 1 or 0", "3>3", 0);
        value("tests of what is below 0", "0-5<0-4", 1);
        value("& gives 1 or 0 (what is not 0 is true)", "2&4", 1);
        value("& gives 1 or 0", "2&0", 0);
        value("& gives 1 or 0", "0&2", 0);
        value("& of what is below 0", "(0-1)&(0-2)", 1);
        value("| gives 1 or 0", "2|4", 1);
        value("| gives 1 or 0", "0|4", 1);
        value("| gives 1 or 0", "4|0", 1);
        value("| gives 1 or 0", "0|0", 0);
        value("! gives 1 or 0", "!5", 0);
        value("! gives 1 or 0", "!(0-5)", 0);
        value("! gives 1 or 0", "!0", 1);
        value("! gives 1 or 0", "!!5", 1);
        value("& binds tighter than |", "1|0&0", 1);
        value("& binds tighter than |", "0&0|1", 1);
        value("tests bind tighter than &", "1&2=2", 1);
        value("SUMS bind tighter than tests", "1+1=2", 1);
        value("! binds tightest", "!0+1", 2);
        value("! binds tightest", "!1*5", 0);
        value("! binds tightest", "!0=1", 1);
        value("! of ( )", "!(0+1)*5", 0);
        value("! of ( ), then a sign", "!(0)*5+1", 6);
    }

    private static void votes() {
        t("A TEXT is MOOTED as it comes", ONE + "text(\"share 0\")=0; of(0,1)=NONE; of(0,2)=NONE; run(120);"
                + "why(0)=NONE; count(7)=0; share(0,5)=5");
        t("(one VOTE at a time)", ONE + "text(\"share 1\"); text(\"share 2\"); count(14)=0; hold(0)=0; count(14)=1;"
                + "hold(1)=NO; hold(0)=NO; tally()=0; count(14)=0; hold(1)=0");
        t("each says yes or no once", ONE + "person(30,0,0); text(\"share 1\"); hold(0); say(0,1)=1; say(0,1)=NO;"
                + "say(0,0)=NO; say(1,1)=2; tally()=1", ONE + "text(\"share 1\"); hold(0); say(0,0)=1; say(0,1)=NO;"
                + "tally()=0; hold(0)=0; say(0,1)=1; tally()=1");
        t("till it is counted", ONE + "text(\"share 1\"); say(0,1)=NO; hold(0); run(120); say(0,1)=1; run(120);"
                + "tally()=1; of(0,1)=5; say(0,1)=NO; tally()=NO");
        t("(without one: more yes than no)", ONE + "person(30,0,0); text(\"share 1\"); hold(0); tally()=0; hold(0);"
                + "say(0,1); say(1,0); tally()=0; hold(0); say(0,0); tally()=0; hold(0); say(1,1); tally()=1");
        t("(What does not pass stays as it is; a MOOTED one may be put again.)", ONE + "text(\"share 1\"); hold(0);"
                + "say(0,0); tally()=0; of(0,1)=NONE; hold(0)=0; say(0,0); tally()=0; hold(0)=0; say(0,1)=1; tally()=1;"
                + "of(0,1)=1; hold(0)=1; say(0,0); tally()=0; of(0,2)=NONE; of(0,1)=1; hold(0)=1");
    }

    private static void voters() {
        t("each of PEOPLE who is not DEAD", ONE + "person(30,0,0); text(\"share 1\"); hold(0); be(1,3,100);"
                + "say(1,1)=NO; be(1,3,99); say(1,1)=1; be(1,3,100); say(1,1)=NO; tally()=1");
        t("and may vote (by what is in FORCE as they say it)", ONE + "person(30,1,0); text(\"vote c\");"
                + "text(\"share 1\"); hold(0); say(0,1); tally()=1; hold(1); run(59); say(0,0)=1; run(1); be(0,1,0);"
                + "say(0,0)=NO; say(1,1)=1; tally()=0; hold(1); say(0,1)=NO; be(0,1,1); say(0,0)=1; say(1,0)=2");
        t("(who may: without a TEXT all)", ONE + "person(0,0,0); person(99,3,0); may(0,1,0)=1; may(1,1,0)=1;"
                + "may(2,1,0)=1; text(\"share 1\"); hold(0); say(1,1)=1; say(2,1)=2; say(0,0)=1");
        t("it passes, if what is in FORCE then for pass gives it", ONE + "text(\"pass 0\"); text(\"share 1\"); hold(0);"
                + "say(0,1); tally()=1; hold(1); say(0,1); run(59); tally()=1; of(1,1)=1; hold(1)=1; say(0,1); run(1);"
                + "tally()=0; of(1,2)=NONE",
                ONE + "law(\"pass 1\"); text(\"share 1\"); hold(1); say(0,0); tally()=1", ONE + "law(\"pass 0-1\");"
                + "text(\"share 1\"); hold(1); tally()=1");
        t("y, n how many said yes, no, e how many may vote", ONE + "person(30,0,0); person(30,0,0); person(30,0,0);"
                + "law(\"pass y=1&n=2&e=4\"); text(\"share 1\"); hold(1); say(0,1); say(1,0); tally()=0; hold(1);"
                + "say(0,1); say(1,0); say(2,0); tally()=1", ONE + "person(30,0,0); law(\"pass y=1&n=0&e=1\");"
                + "text(\"share 1\"); hold(1); say(0,1); tally()=0; hold(1); say(0,1); be(0,3,100); tally()=1",
                ONE + "person(30,1,0); law(\"vote c\"); law(\"pass e=1\"); text(\"share 1\"); hold(2); tally()=1",
                ONE + "law(\"pass e=0\"); text(\"share 1\"); hold(1); tally()=0; hold(1); be(0,3,100); tally()=1");
        t("nobody is there", "text(\"share 1\"); hold(0)=0; tally()=0; text(\"pass 1\")=1; hold(1)=0; say(0,1)=BAD;"
                + "tally()=0");
    }

    private static void force() {
        t("Passed: a MOOTED one is in FORCE from the next HOUR on", ONE + "text(\"share 0\"); hold(0); say(0,1);"
                + "tally()=1; of(0,1)=1; why(0)=NONE; count(7)=0; share(0,5)=5; run(59); why(0)=NONE; share(0,5)=5;"
                + "run(1); why(0)=0; count(7)=1; share(0,5)=0",
                ONE + "run(60); text(\"share 0\"); hold(0); say(0,1); tally(); of(0,1)=2; run(59); why(0)=NONE; run(1);"
                + "why(0)=0",
                ONE + "run(59); text(\"share 0\"); hold(0); say(0,1); tally(); of(0,1)=1; why(0)=NONE; run(1);"
                + "why(0)=0");
        t("TEXTS, 12 at most, all in FORCE", ONE + "law(\"share 1\")=0; law(\"share 2\")=1; law(\"share 3\")=2;"
                + "law(\"share 4\")=3; law(\"share 5\")=4; law(\"share 6\")=5; law(\"share 7\")=6; law(\"share 8\")=7;"
                + "law(\"share 9\")=8; law(\"share 10\")=9; law(\"share 11\")=10; law(\"share 0\")=11; count(7)=12;"
                + "why(0)=11; share(0,5)=0; text(\"share 1\")=FULL");
    }

    private static void striking() {
        t("1 to strike it (it passed once), 0 to make it", ONE + "text(\"share 0\"); hold(0)=0; say(0,1); tally();"
                + "hold(0)=1; tally()=0; run(60); hold(0)=1; tally()=0");
        t("one that is struck is so from the next HOUR on", ONE + "law(\"share 0\"); hold(0)=1; say(0,1); tally()=1;"
                + "of(0,2)=2; of(0,1)=1; why(0)=0; count(7)=1; share(0,5)=0; run(59); why(0)=0; run(1); why(0)=NONE;"
                + "count(7)=0; share(0,5)=5; of(0,2)=2");
        t("NO: it is struck (or will be)", ONE + "law(\"share 0\"); hold(0); say(0,1); tally(); hold(0)=NO;"
                + "count(14)=0; run(60); hold(0)=NO; run(60); hold(0)=NO");
        t("struck ahead of its FORCE", ONE + "text(\"share 0\"); hold(0); say(0,1); tally()=1; hold(0)=1; say(0,1);"
                + "tally()=1; of(0,1)=1; of(0,2)=1; run(60); why(0)=NONE; count(7)=0; hold(0)=NO");
    }

    private static void counting() {
        t("of several the one that came into FORCE last", ONE + "text(\"share 1\"); text(\"share 2\"); hold(1);"
                + "say(0,1); tally(); run(60); why(0)=1; hold(0); say(0,1); tally(); run(59); why(0)=1; run(1);"
                + "why(0)=0; count(7)=2");
        t("(the greater number)", ONE + "text(\"share 1\"); text(\"share 2\"); hold(1); say(0,1); tally(); hold(0);"
                + "say(0,1); tally(); run(60); why(0)=1; hold(1); say(0,1); tally(); run(60); why(0)=0; hold(0);"
                + "say(0,1); tally(); run(60); why(0)=NONE");
        t("of a KEY", ONE + "law(\"open 1\"); why(0)=NONE; why(1)=0; why(2)=NONE; why(3)=NONE; why(4)=NONE;"
                + "why(5)=NONE; law(\"pass 1\"); why(5)=1; law(\"vote 1\"); why(4)=2; law(\"birth 1\"); why(3)=3;"
                + "law(\"shed 1\"); why(2)=4; law(\"share 1\"); why(0)=5; why(1)=0; why(6)=BAD; why(-1)=BAD;"
                + "count(7)=6");
    }

    private static void may() {
        String two = ONE + "cell(9); lock(0,1,1); lock(0,1,1); ";
        t("one may, if E is not 0", two + "law(\"open n-1\"); may(0,0,0)=1; may(0,0,1)=0; turn(0,0,1)=0;"
                + "turn(1,0,1)=NO; turn(1,0,0)=NO; turn(0,0,0)=1", two + "law(\"vote 0-1\"); may(0,1,0)=1",
                two + "law(\"birth 0-1\"); may(0,2,0)=1; birth(0)=1");
        t("(without a TEXT: so)", two + "may(0,0,0)=1; may(0,0,1)=1; may(0,1,0)=1; may(0,2,0)=1; turn(0,0,1)=0;"
                + "birth(0)=1");
        t("none may be born", two + "law(\"birth 0\"); may(0,2,0)=0; birth(0)=NO; birth(-1)=BAD; count(4)=1;"
                + "23*person(1,1,1); birth(0)=NO; count(4)=24");
        t("a, c, s of a PERSON", two + "be(0,0,99); law(\"open a=99&c=3&s=0\"); may(0,0,0)=0; be(0,1,3); may(0,0,0)=1;"
                + "be(0,3,99); may(0,0,0)=0; be(0,3,0); be(0,0,98); may(0,0,0)=0");
    }

    private static void shares() {
        t("n times that / all of these, cut; what is left over 1 each to the first of them that have parts",
                ONE + "person(30,0,0); person(30,0,0); share(0,8)=3; share(1,8)=3; share(2,8)=2; share(0,7)=3;"
                + "share(1,7)=2; share(2,7)=2; share(0,1)=1; share(1,1)=0; share(0,0)=0; share(2,999999)=333333;"
                + "share(2,999998)=333332",
                "cell(9); air(0,0,9999); person(0,0,0); person(1,0,0); person(0,0,0); person(1,0,0); law(\"share a\");"
                + "share(0,3)=0; share(1,3)=2; share(2,3)=0; share(3,3)=1");
        t("(0 at least)", "cell(9); air(0,0,9999); person(1,0,0); person(5,0,0); law(\"share a-3\"); share(0,9)=0;"
                + "share(1,9)=9");
        t("(9999 at most)", "cell(9); air(0,0,9999); person(1,0,0); person(2,0,0);"
                + "law(\"share (a=1)*9999+(a=2)*9999*9999\"); share(0,10)=5; share(1,10)=5", "cell(9); air(0,0,9999);"
                + "person(1,0,0); person(2,0,0); law(\"share (a=1)+(a=2)*9999*2\"); share(0,10000)=1;"
                + "share(1,10000)=9999; share(0,9999)=1; share(1,9999)=9998");
        t("(0 all, if nobody has)", ONE + "law(\"share 0\"); share(0,999999)=0", ONE + "law(\"share 0-1\");"
                + "share(0,999999)=0");
        t("without a TEXT 1", ONE + "share(0,999999)=999999; person(3,0,0); share(0,999999)=500000;"
                + "share(1,999999)=499999");
        t("of each of PEOPLE who is not DEAD", ONE + "person(30,0,0); be(0,3,100); share(1,9)=9; share(0,9)=NO;"
                + "be(0,3,99); share(1,9)=4");
        t("n grams (0 .. 999999)", ONE + "share(0,-1)=BAD; share(0,1000000)=BAD; share(0,0)=0; share(-1,0)=BAD;"
                + "share(1,0)=BAD");
        t("24 with 9999 parts each", "cell(9); air(0,0,99999); 24*person(30,0,0); law(\"share 9999\");"
                + "share(0,999999)=41667; share(14,999999)=41667; share(15,999999)=41666; share(23,999999)=41666");
    }

    private static void sheds() {
        t("the greater first, of like ones the lesser number", "cell(9); work(0,0,5,0,0); work(0,0,7,0,0);"
                + "work(0,0,5,0,0); work(0,0,7,0,0); order(0)=1; order(1)=3; order(2)=0; order(3)=2; order(4)=NONE;"
                + "order(MOST)=NONE; order(-1)=BAD; order(LEAST)=BAD");
        t("never one with E 0 or below", ONE + "work(0,0,1,0,0); work(0,0,2,0,0); work(0,0,3,0,0); law(\"shed m-2\");"
                + "order(0)=2; order(1)=NONE; shed()=2; shed()=NO; enough()=NO; count(3)=1");
        t("WORKS that are not GONE", "cell(9); order(0)=NONE; shed()=NO; work(0,0,1,0,0); order(0)=0; shed()=0;"
                + "order(0)=NONE; shed()=NO");
        t("its GAS is OUT by its CELL as CARRIER", "cell(9); cell(9); work(1,1,1,9,99999); shed()=0; told(1,11)=99999;"
                + "told(0,11)=0; told(1,1)=0; city(7)=99999", "cell(9); work(1,0,1,1,9); work(5,0,9,0,77); shed()=1;"
                + "told(0,11)=0",
                "cell(9); work(6,0,1,9999,0); shed()=0; city(7)=0");
        t("24 of them", "cell(9); 24*work(0,0,9,0,0); order(23)=23; order(24)=NONE; enough()=24; 23*shed(); shed()=23;"
                + "shed()=NO; count(3)=24");
    }
}
