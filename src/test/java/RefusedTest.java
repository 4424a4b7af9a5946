import java.util.ArrayList;
import java.util.List;

/**
 * Promise by promise: every call that is refused answers what stands first with it, and leaves a city in which there is
 * something of everything as it was.
 */
public final class RefusedTest {
    private static final int MOST_CALLS = 512;
    private static final Due d = new Due();

    public static void main(String[] args) {
        cellsAndLocks();
        turns();
        storesAndGives();
        works();
        kindsOfWorks();
        workNumbers();
        worksThatAreGone();
        tablesAndMinutes();
        people();
        tapes();
        votes();
        mayAndShares();
        gauges();
        copies();
        doubtsAndRounds();
        dark();
        room();
        builds();
        rows();
        d.end();
    }

    /** Something of everything: GONE ones, the DEAD, a VOTE, TEXTS of all ages, an IMAGE from an HOUR ago. */
    private static AcidCity something() {
        AcidCity x = new AcidCity();
        Run.on(x, "cell(10); cell(30); cell(5); air(0,0,5000); air(1,0,6000); air(2,0,7000); air(0,3,4); air(1,4,50);"
                + "air(2,5,3); air(1,2,70); lock(0,1,5); lock(1,2,9); person(30,1,0); person(40,3,1); person(10,2,2);"
                + "person(50,0,0); turn(0,0,1); work(1,0,50,3,200); work(5,0,3,0,900); work(2,1,9,5,0);"
                + "work(3,1,9,7,0); work(4,0,9,2,0); work(6,2,9,60000,0); work(6,2,9,900,0); work(0,0,400,0,0);"
                + "work(1,1,20,9,30); work(1,2,500,2,10); work(6,2,450,77,0); shed(); shed(); shed(); tune(2,1,60);"
                + "tune(8,0,0); store(0,11); store(1,12); store(2,13); store(3,14); store(4,2); store(5,500);"
                + "be(3,3,100)");
        Run.on(x, "text(\"open c=1&n=0\"); text(\"birth 0\"); text(\"vote a>20\"); text(\"share a\"); text(\"shed m\");"
                + "hold(0); say(0,1); tally(); hold(1); say(0,1); tally(); hold(2); say(0,1); tally(); hold(4);"
                + "say(0,1); tally(); run(60); keep(); drop(5); hold(4); say(0,1); tally(); run(60); hold(3); say(0,1);"
                + "run(3)");
        Run.on(x, "gauge(0,0,4); point(0,1,7); gauge(1,1,5); point(1,0,9); point(1,1,NONE); point(1,2,-4);"
                + "point(1,4,NONE); shows(0,1,2); shows(3,4,1); tested(0,0); weather(0,300); weather(1,500);"
                + "takes(0,5); takes(1,2); takes(2,9); takes(3,9); harm(0,1,4); harm(1,0,7); ship(100,30,5); lot(10,5);"
                + "lot(6,3); build(2,5,0); build(3,9,1); tell(0); tell(2); tape(\"share 5\")");
        return x;
    }

    private static List<Integer> look(AcidCity x) {
        List<Integer> seen = new ArrayList<>();
        ask(seen, x, "city", 0, 13);
        ask(seen, x, "count", 0, 14);
        for (int i = 0; i < 3; i++) {
            ask(seen, x, "told(" + i + ",", 0, 14);
            ask(seen, x, "known(" + i + ",", 0, 5);
            ask(seen, x, "read(" + i + ",", 0, 4);
        }
        for (int i = 0; i < 11; i++) {
            ask(seen, x, "has(" + i + ",", 3, 10);
        }
        for (int i = 0; i < 4; i++) {
            ask(seen, x, "is(" + i + ",", 0, 3);
        }
        for (int i = 0; i < 5; i++) {
            ask(seen, x, "of(" + i + ",", 0, 2);
        }
        ask(seen, x, "order", 0, 8);
        ask(seen, x, "find", 0, 1);
        ask(seen, x, "planned(10,", 0, 2);
        each(seen, x, "share(1,100); enough(); lack(3,2); sewn(3,3,0,0); dark(2,9); load(2,9,0); window(0); cargo(12);"
                + "plan(9,9)");
        each(seen, x, "table(0,30,0); table(1,30,0); table(2,30,0); table(0,60,0); set(2,5760); set(3,10); tune(0,1,0);"
                + "tune(2,1,0); turn(0,0,0); shows(0,1,0); shows(3,4,0); shows(7,11,0); weather(0,0); weather(1,0);"
                + "weather(47,0); takes(0,0); takes(1,0); takes(2,0); takes(3,0); harm(0,1,0); harm(1,0,0);"
                + "harm(0,0,0); tested(0,-1); text(); of(5,3); say(0,1); say(1,0); tally(); check(1,10,0); run(1);"
                + "city(0); told(1,0); told(0,0); back(); count(2); city(0); told(1,0)");
        return seen;
    }

    private static void ask(List<Integer> seen, AcidCity x, String call, int from, int to) {
        for (int i = from; i <= to; i++) {
            seen.add(Run.on(x, call.indexOf('(') >= 0 ? call + i + ")" : call + "(" + i + ")"));
        }
    }

    private static void each(List<Integer> seen, AcidCity x, String calls) {
        for (String call : calls.split(";")) {
            seen.add(Run.on(x, call));
        }
    }

    /** Each call is made on a city of its own. */
    private static void refused(String due, String... calls) {
        refusedBehind("", due, calls);
    }

    private static void refusedBehind(String before, String due, String... calls) {
        AcidCity control = something();
        Run.on(control, before);
        List<Integer> as = look(control);
        d.eq("calls of one look", as.size() < MOST_CALLS - 160 ? 1 : 0, 1);
        for (String all : calls) {
            for (String call : all.split(";")) {
                AcidCity x = something();
                Run.on(x, before);
                d.eq(before + call.trim(), Run.on(x, call), Run.number(due));
                d.same("what is so behind " + before + call.trim(), look(x), as);
            }
        }
    }

    private static void cellsAndLocks() {
        refused("BAD", "cell(0); cell(-1); cell(LEAST); cell(1000); cell(MOST)");
        refused("BAD", "air(-1,0,1); air(3,0,1); air(LEAST,0,1); air(0,-1,1); air(0,6,1); air(0,MOST,1); air(0,0,-1);"
                + "air(0,0,1000000)",
                "air(0,1,-1); air(0,1,1000000); air(0,2,-1); air(0,2,1000000); air(0,3,-1); air(0,3,1000000);"
                + "air(0,4,-1); air(0,4,1000000)",
                "air(0,5,-1); air(0,5,100)");
        refused("BAD", "told(-1,0); told(3,0); told(MOST,0); told(0,-1); told(0,9); told(0,15); told(0,MOST);"
                + "told(0,LEAST)");
        refused("BAD", "lock(0,0,5); lock(2,2,5); lock(-1,0,5); lock(0,-1,5); lock(3,0,5); lock(0,3,5); lock(0,2,0);"
                + "lock(0,2,10); lock(0,2,-1)");
    }

    private static void turns() {
        refused("BAD", "turn(-1,0,1); turn(2,0,1); turn(0,-1,1); turn(0,4,1); turn(0,0,-1); turn(0,0,2)");
        refused("NO", "turn(0,3,0); turn(0,1,0); turn(0,2,0); turn(1,0,1)");
        // BAD stands ahead of NO.
        refused("BAD", "turn(0,3,2); turn(0,1,-1); turn(2,3,1); turn(1,0,2)");
    }

    private static void storesAndGives() {
        refused("BAD", "store(-1,5); store(6,5); store(0,-1); store(0,1000000); store(4,1000000); store(5,-1)");
        refused("BAD", "give(-1,0,1); give(4,0,1); give(6,0,1); give(0,-1,1); give(0,3,1); give(0,0,0); give(0,0,-1);"
                + "give(0,0,1000000)");
        refused("NO", "give(0,0,12); give(1,0,13); give(2,0,14); give(3,0,15); give(5,0,999)");
        // BAD stands ahead of NO.
        refused("BAD", "give(0,3,12); give(4,0,999); give(0,0,1000000)");
        refusedBehind("air(0,0,999999); store(0,9);", "NO", "give(0,0,1); give(0,0,9); give(0,0,10)");
        refusedBehind("air(0,4,999991); store(5,9);", "NO", "give(5,0,9)");
    }

    private static void works() {
        refused("BAD", "work(-1,0,1,0,0); work(7,0,1,0,0); work(0,-1,1,0,0); work(0,3,1,0,0); work(0,0,0,0,0);"
                + "work(0,0,10000,0,0)",
                "work(0,0,1,1,0); work(0,0,1,0,1); work(1,0,1,0,0); work(1,0,1,10,0); work(1,0,1,1,-1);"
                + "work(1,0,1,1,100000)",
                "work(2,0,1,0,0); work(2,0,1,100,0); work(2,0,1,1,1); work(3,0,1,0,0); work(3,0,1,100,0);"
                + "work(3,0,1,1,1)",
                "work(4,0,1,0,0); work(4,0,1,100,0); work(4,0,1,1,1); work(6,0,1,0,0); work(6,0,1,100000,0);"
                + "work(6,0,1,1,1)",
                "work(5,0,1,-1,5); work(5,0,1,1,5); work(5,0,1,2,5); work(5,0,1,7,5); work(5,0,1,11,5);"
                + "work(5,0,1,0,0); work(5,0,1,0,10000)");
    }

    private static void kindsOfWorks() {
        refused("BAD", "as(-1,0); as(11,0); as(0,-1); as(0,7); as(11,7); as(MOST,0); as(0,LEAST)");
        refused("KIND", "as(0,2); as(0,5); as(1,3); as(2,1); as(2,3); as(3,4); as(4,1); as(4,6); as(5,4); as(7,1);"
                + "as(7,6)");
        refused("BAD", "sew(-1); sew(11); drop(-1); drop(11); depth(-1); depth(11)");
        refused("KIND", "sew(1); sew(2); sew(3); sew(4); sew(5); sew(7)");
        refused("KIND", "drop(0); drop(1); drop(2); drop(3); drop(4); drop(7); drop(9)");
        refused("KIND", "depth(0); depth(1); depth(2); depth(3); depth(4); depth(7); depth(9)");
    }

    private static void workNumbers() {
        refused("BAD", "has(-1,0); has(11,0); has(0,-1); has(0,11); has(MOST,MOST)");
        refused("BAD", "tune(-1,0,0); tune(11,0,0); tune(0,-1,0); tune(0,2,0); tune(0,0,-1); tune(0,0,2); tune(0,1,-1);"
                + "tune(0,1,100)");
        refused("BAD", "clean(-1); clean(11); clean(MOST); clean(LEAST)");
    }

    private static void worksThatAreGone() {
        refused("NO", "tune(7,0,0); tune(7,0,1); tune(9,1,5); tune(10,1,5); clean(7); clean(9); clean(10)");
        // BAD stands ahead of NO, KIND too.
        refused("BAD", "tune(7,2,0); tune(7,0,2); tune(7,1,100)");
        refused("KIND", "sew(7); sew(10); drop(7); drop(9); depth(7); depth(9)");
        refused("NO", "sew(8); sew(9)");
        refusedBehind("store(4,0);", "NO", "sew(0); sew(8); sew(9)");
        refusedBehind("store(4,0);", "KIND", "sew(1); sew(7)");
        refused("NO", "drop(5); drop(10); depth(5); depth(10)");
    }

    private static void tablesAndMinutes() {
        refused("BAD", "table(-1,30,5); table(3,30,5); table(0,-1,5); table(0,61,5); table(0,30,-1); table(0,30,10000);"
                + "table(2,61,10000)");
        refused("BAD", "set(-1,5); set(4,5); set(0,-1); set(0,601); set(1,-1); set(1,100000); set(2,1); set(2,10000);"
                + "set(3,-1); set(3,100)");
        refused("BAD", "city(-1); city(14); city(MOST); city(LEAST)");
        refused("BAD", "run(0); run(-1); run(121); run(MOST); run(LEAST)");
    }

    private static void people() {
        refused("BAD", "person(-1,0,0); person(100,0,0); person(1,-1,0); person(1,4,0); person(1,1,-1); person(1,1,3)");
        refused("BAD", "be(-1,0,1); be(4,0,1); be(0,-1,1); be(0,4,1); be(0,0,-1); be(0,0,100); be(0,1,-1); be(0,1,4);"
                + "be(0,2,-1)",
                "be(0,2,3); be(0,3,-1); be(0,3,101)");
        refused("BAD", "is(-1,0); is(4,0); is(0,-1); is(0,5)");
        refused("BAD", "birth(-1); birth(3); birth(MOST)");
        refused("NO", "birth(0); birth(2)");
    }

    private static void tapes() {
        refused("BAD", "trim(-1); trim(8); trim(MOST); trim(LEAST)");
        refusedBehind("feed(0,0,0);".repeat(7) + "trim(85);", "FULL",
                "feed(1,2,3)");
        refused("BAD", "of(-1,0); of(5,0); of(0,-1); of(0,4)");
        // A FAULT uses THE TAPE up, and changes nothing else.
        textRefused("trim(5);", -105);
        textRefused("trim(0);", -100);
        textRefused("tape(\"share a a\");", -108);
        // The same of FULL, which stands behind the FAULT.
        StringBuilder more = new StringBuilder();
        for (int i = 5; i < 12; i++) {
            more.append("text(\"shed ").append(i).append("\");");
        }
        textRefused(more + "tape(\"share 5\");", AcidCity.FULL);
        textRefused(more + "tape(\"share 5 5\");", -108);
    }

    private static void textRefused(String before, int due) {
        AcidCity control = something();
        Run.on(control, before + "trim(0)");
        AcidCity x = something();
        Run.on(x, before);
        d.eq(before + "text()", x.text(), due);
        d.same("what is so behind " + before + "text()", look(x), look(control));
    }

    private static void votes() {
        refused("BAD", "hold(-1); hold(5); hold(MOST)");
        refused("NO", "hold(0); hold(1); hold(3); hold(4)");
        refusedBehind("tally();", "NO", "hold(4); tally(); say(0,1); say(1,0); say(3,1)");
        refusedBehind("tally();", "BAD", "hold(5); say(-1,1); say(4,1); say(0,2)");
        refused("BAD", "say(-1,1); say(4,1); say(0,-1); say(0,2); say(3,2)");
        refused("NO", "say(0,1); say(0,0); say(3,1); say(3,0); say(2,1); say(2,0)");
        refused("BAD", "why(-1); why(6); why(MOST)");
        refused("NONE", "why(0); why(2); why(5)");
    }

    private static void mayAndShares() {
        refused("BAD", "may(-1,0,0); may(4,0,0); may(-1,1,0); may(4,1,0); may(0,-1,0); may(0,3,0); may(0,0,-1);"
                + "may(0,0,2); may(3,0,0)",
                "may(3,1,0)");
        refused("BAD", "share(-1,5); share(4,5); share(0,-1); share(0,1000000); share(3,-1); share(3,1000000)");
        refused("NO", "share(3,0); share(3,999999)");
        refused("BAD", "order(-1); order(LEAST)");
        refused("NONE", "order(8); order(9); order(MOST)");
        // Without WORKS that may be shed.
        String all = "shed();".repeat(8);
        refusedBehind(all, "NO", "shed(); enough()");
        refusedBehind(all, "NONE", "order(0)");
    }

    private static void gauges() {
        refused("BAD", "gauge(-1,0,1); gauge(3,0,1); gauge(0,-2,1); gauge(0,2,1); gauge(0,0,31); gauge(0,1,MOST);"
                + "gauge(3,-1,0)",
                "gauge(3,0,-1); gauge(0,2,-1)");
        refused("SIZE", "gauge(0,0,-1); gauge(0,1,-1); gauge(2,0,LEAST)");
        refused("BAD", "point(-1,0,1); point(3,0,1); point(3,9,NONE); point(1,0,100001); point(1,0,-100001);"
                + "point(1,4,MOST)");
        refused("NOTHING", "point(2,0,1); point(2,-1,1); point(2,99,NONE)");
        refused("INDEX", "point(0,-1,1); point(0,4,1); point(1,5,1); point(0,4,NONE); point(1,5,100001);"
                + "point(1,-1,MOST)");
        refused("KIND", "point(0,0,NONE); point(0,3,NONE)");
        refused("BAD", "read(-1,0); read(3,0); read(3,-1)");
        refused("NOTHING", "read(2,0); read(2,-1); read(2,MOST)");
        refused("INDEX", "read(0,-1); read(0,4); read(1,5); read(1,MOST); read(1,LEAST)");
        refused("KIND", "read(1,4)");
        refused("BAD", "worst(-1,0); worst(LEAST,2); worst(0,-1); worst(0,3); worst(-1,3)");
        refused("NONE", "worst(4,0); worst(4,1); worst(5,0); worst(MOST,1)");
    }

    private static void copies() {
        refused("BAD", "copy(-1,0,0,0,1); copy(3,0,0,0,1); copy(0,0,-1,0,1); copy(0,0,3,0,1); copy(2,0,3,0,1);"
                + "copy(3,9,2,9,9)");
        refused("NOTHING", "copy(2,0,0,0,1); copy(0,0,2,0,1); copy(2,0,2,0,0); copy(2,9,0,9,9); copy(1,-1,2,0,0)");
        refused("KIND", "copy(0,0,1,0,1); copy(1,0,0,0,1); copy(0,0,1,0,0); copy(0,9,1,9,9); copy(1,-1,0,0,1)");
        refused("INDEX", "copy(0,-1,0,0,1); copy(0,0,0,-1,1); copy(0,4,0,0,1); copy(0,0,0,4,1); copy(0,0,0,0,5);"
                + "copy(0,1,0,0,4)",
                "copy(0,0,0,1,4); copy(1,0,1,0,6); copy(0,5,0,0,0); copy(0,0,0,5,0); copy(0,0,0,0,-1);"
                + "copy(0,1,0,1,MOST); copy(0,MOST,0,0,1)",
                "copy(0,0,0,LEAST,1); copy(0,0,0,0,LEAST)");
    }

    private static void doubtsAndRounds() {
        refused("BAD", "shows(-1,0,1); shows(8,0,1); shows(0,-1,1); shows(0,12,1); shows(0,1,-1); shows(0,1,4)");
        refused("BAD", "tested(-1,0); tested(8,0); tested(0,-2); tested(0,4); find(-1); find(2)");
        refused("BAD", "weather(-1,0); weather(48,0); weather(0,-1); weather(0,1000)");
        refused("BAD", "lack(0,1); lack(49,1); lack(-1,1); lack(1,-1); lack(1,10)");
        refused("BAD", "sewn(0,1,0,0); sewn(49,1,0,0); sewn(1,-1,0,0); sewn(1,10,0,0); sewn(1,1,-1,0); sewn(1,1,11,0);"
                + "sewn(1,1,0,-1)",
                "sewn(1,1,0,1); sewn(48,1,0,48)");
        refused("NONE", "lack(1,0)");
    }

    private static void dark() {
        refused("BAD", "takes(-1,1); takes(4,1); takes(0,-1); takes(0,100)");
        refused("BAD", "harm(-1,0,1); harm(24,0,1); harm(0,-1,1); harm(0,4,1); harm(0,1,-1); harm(0,1,1000)");
        refused("BAD", "dark(0,1); dark(25,1); dark(1,-1); dark(1,301)");
        refused("NONE", "dark(1,1); dark(2,3); dark(24,47); load(1,1,0); load(2,3,1)");
        refused("BAD", "load(0,1,0); load(25,1,0); load(1,-1,0); load(1,301,0); load(1,1,-1); load(1,1,1); load(2,3,2);"
                + "load(24,300,24)");
    }

    private static void room() {
        refused("BAD", "known(-1,0); known(3,0); known(0,-1); known(0,6); known(1,6)");
        refused("NONE", "known(0,0); known(0,5); known(2,4)");
        refused("BAD", "ship(1,0,1); ship(10000,0,1); ship(2,-1,1); ship(2,10000,1); ship(2,0,0); ship(2,0,1000)");
        refused("BAD", "window(-1); window(1); window(MOST)");
        refusedBehind("set(2,9999); set(1,4999); ship(9999,9998,1);", "BAD", "window(2); window(-1)");
        refused("BAD", "lot(0,0); lot(10000,0); lot(1,-1); lot(1,1000); cargo(-1); cargo(100000)");
    }

    private static void builds() {
        refused("BAD", "build(0,1,0); build(10,1,0); build(1,0,0); build(1,100,0); build(1,1,-1); build(1,1,128)");
        refused("BAD", "plan(0,9); plan(61,9); plan(9,0); plan(9,20001)");
        refused("SPENT", "plan(9,1)");
        refused("BAD", "planned(0,0); planned(61,0); planned(9,-1); planned(0,-1)");
        refused("NONE", "planned(9,2); planned(9,MOST)");
        refusedBehind("build(1,1,4);", "NO", "plan(9,2); plan(9,20000); planned(9,0); planned(9,9)");
        refusedBehind("build(1,1,4);", "SPENT", "plan(9,1)");
        refusedBehind("build(1,1,4);", "BAD", "planned(9,-1); plan(61,1)");
    }

    private static void rows() {
        // Numbers that wait are none then, whatever is answered; nothing else is another.
        String[][] all = {{"check(-1,1,1)", "BAD"}, {"check(3,1,1)", "BAD"}, {"check(0,0,1)", "BAD"}, {"check(0,25,1)",
                "BAD"},
            {"check(0,1,-1)", "BAD"}, {"check(0,1,301)", "BAD"}, {"check(1,0,1)", "BAD"}, {"check(1,61,1)", "BAD"},
            {"check(2,0,1)", "BAD"}, {"check(2,25,1)", "BAD"}, {"check(0,1,1)", "NONE"}, {"check(0,24,47)", "NONE"}};
        for (String[] one : all) {
            AcidCity control = something();
            Run.on(control, "check(1,10,0)");
            AcidCity x = something();
            d.eq(one[0], Run.on(x, one[0]), Run.number(one[1]));
            d.same("what is so behind " + one[0], look(x), look(control));
        }
        AcidCity ring = something();
        Run.on(ring, "build(1,1,4)");
        d.eq("check of a ring", ring.check(1, 9, 0), AcidCity.NO);
        d.eq("none wait then", ring.count(12), 0);
        refusedBehind("tell(1);".repeat(58), "FULL", "tell(0); tell(1)");
        refused("BAD", "count(-1); count(15); count(MOST); count(LEAST)");
    }
}
