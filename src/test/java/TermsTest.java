/** The document's Terms, parts 1, 2 and 4 to 9: each sentence that names an edge has a run of calls of its own. */
public final class TermsTest {
    private static final Due d = new Due();
    /** Somebody of 30 years without a CRAFT, with air for days. */
    private static final String ONE = "cell(9); air(0,0,99999); person(30,0,0); ";

    public static void main(String[] args) {
        cutting();
        minutesAndHeight();
        lightAndDark();
        cellsAndStores();
        works();
        kinds();
        gone();
        people();
        gardens();
        stillsAndRotors();
        patches();
        skinsWear();
        skinsLose();
        locks();
        holes();
        breath();
        above();
        weightAndLift();
        height();
        fouling();
        gauges();
        doubts();
        rounds();
        fitters();
        dark();
        reports();
        probes();
        ships();
        lots();
        builds();
        images();
        dayTold();
        d.end();
    }

    private static void t(String sentence, String... runs) {
        Run.holds(d, sentence, runs);
    }

    private static void cutting() {
        t("/ cuts towards 0",
                "cell(9); work(0,0,19,0,0); run(1); city(0)=299",
                "cell(9); work(0,0,9,0,0); run(1); city(0)=300",
                "cell(9); gauge(0,1,3); point(0,0,-3); point(0,1,NONE); point(0,2,-4); read(0,1)=-3",
                "cell(9); person(7,0,0); air(0,0,999); law(\"share (0-7)/2=0-3\"); share(0,5)=5");
        t("tenths of a number are it times so many by 10",
                "cell(10); cell(10); lock(0,1,9); person(30,0,0); turn(0,0,1); be(0,3,100); air(0,3,3); air(1,4,3);"
                + "run(1); told(0,3)=3; told(1,4)=3; air(0,3,4); air(1,4,4); run(1); told(0,3)=3; told(1,3)=1;"
                + "told(0,4)=1");
        t("a call that is refused changes nothing",
                "cell(9); air(0,0,5); air(0,0,1000000)=BAD; told(0,0)=5; cell(0)=BAD; count(0)=1; run(121)=BAD;"
                + "city(6)=0");
    }

    private static void minutesAndHeight() {
        t("the MINUTE that is open is 0 at first", "city(6)=0; run(1)=1; city(6)=1");
        t("HOUR: MINUTE / 60",
                "cell(9); air(0,0,9999); person(30,0,0); text(\"share 1\")=0; text(\"share 2\")=1; run(59)=59;"
                + "hold(0)=0; say(0,1)=1; tally()=1; of(0,1)=1; run(1)=60; hold(1)=0; say(0,1)=1; tally()=1;"
                + "of(1,1)=2");
        t("HEIGHT is 0 .. 600 (300 at first)",
                "city(0)=300; set(0,-1)=BAD; set(0,601)=BAD; city(0)=300; set(0,0)=300; set(0,600)=0; city(0)=600");
        t("its LEVEL HEIGHT / 10 (0 .. 60)",
                "city(1)=30; set(0,0); city(1)=0; set(0,9); city(1)=0; set(0,10); city(1)=1; set(0,599); city(1)=59;"
                + "set(0,600); city(1)=60");
        t("TABLES by LEVELS 0 .. 60",
                "table(0,-1,5)=BAD; table(0,61,5)=BAD; table(1,-1,5)=BAD; table(1,61,5)=BAD; table(2,-1,5)=BAD;"
                + "table(2,61,5)=BAD; table(0,0,5)=900; table(1,0,5)=600; table(2,0,5)=60; table(0,60,5)=180;"
                + "table(1,60,5)=0; table(2,60,5)=0",
                "cell(9); work(1,0,1,9,1000); set(0,0); city(2)=9000; set(0,600); city(2)=1800; table(0,60,9999)=180;"
                + "city(2)=99990; table(0,60,0)=9999; city(2)=0");
        t("TABLES: 0 .. 9999 each",
                "table(0,7,-1)=BAD; table(0,7,10000)=BAD; table(0,7,9999)=816; table(0,7,0)=9999; table(0,7,1)=0",
                "table(1,7,-1)=BAD; table(1,7,10000)=BAD; table(1,7,9999)=530; table(1,7,0)=9999; table(1,7,1)=0",
                "table(2,7,-1)=BAD; table(2,7,10000)=BAD; table(2,7,9999)=53; table(2,7,0)=9999; table(2,7,1)=0");
    }

    private static void lightAndDark() {
        t("PHASE (0 at first)", "city(5)=0; city(4)=1; set(1,99999)=0; set(1,0)=99999");
        t("ROUND (2 .. 9999; 5760 at first)",
                "set(2,1)=BAD; set(2,10000)=BAD; set(2,2)=5760; set(2,9999)=2; set(2,5760)=9999",
                "set(1,2879); city(4)=1; set(1,2880); city(4)=0; set(1,5759); city(4)=0; set(1,5760); city(4)=1");
        t("DAY while PHASE's rest by ROUND is below half of it (cut), else DARK",
                "set(2,2); city(4)=1; set(1,1); city(4)=0; set(1,2); city(4)=1",
                "set(2,3); city(4)=1; set(1,1); city(4)=0; set(1,2); city(4)=0; set(1,3); city(4)=1",
                "set(2,5); set(1,1); city(4)=1; set(1,2); city(4)=0; set(1,4); city(4)=0; set(1,5); city(4)=1",
                "set(2,9999); set(1,4998); city(4)=1; set(1,4999); city(4)=0; set(1,9998); city(4)=0; set(1,9999);"
                + "city(4)=1; set(1,99999); city(4)=1",
                "set(1,99999); run(1); city(5)=100000; set(2,9999); city(4)=1");
    }

    private static void cellsAndStores() {
        t("CELLS, 20 at most, numbered from 0",
                "cell(5)=0; cell(5)=1; 17*cell(5); cell(5)=19; cell(5)=FULL; count(0)=20; told(19,6)=5;"
                + "told(20,6)=BAD");
        t("a VOLUME 1 .. 999",
                "cell(0)=BAD; cell(-1)=BAD; cell(LEAST)=BAD; cell(1000)=BAD; cell(MOST)=BAD; count(0)=0; cell(1)=0;"
                + "cell(999)=1; told(0,6)=1; told(1,6)=999");
        for (int gas = 0; gas <= 4; gas++) {
            String run = "cell(5); told(0,G)=0; air(0,G,-1)=BAD; air(0,G,1000000)=BAD; air(0,G,LEAST)=BAD;"
                    + "air(0,G,MOST)=BAD; told(0,G)=0; air(0,G,999999)=0; air(0,G,0)=999999; told(0,G)=0";
            t("AIR of four GASES and WARMTH (0 .. 999999 each, 0 at first): " + gas, run.replace("G", "" + gas));
        }
        t("a HOLE 0 .. 99 (0)",
                "cell(5); told(0,5)=0; air(0,5,-1)=BAD; air(0,5,100)=BAD; air(0,5,99)=0; told(0,5)=99; air(0,5,0)=99");
        t("LOCKS, 24 at most", "cell(5); cell(5); lock(0,1,1)=0; 22*lock(0,1,1); lock(1,0,9)=23; lock(0,1,1)=FULL;"
                + "count(1)=24");
        t("between two CELLS", "cell(5); cell(5); lock(0,0,1)=BAD; lock(1,1,1)=BAD; lock(0,2,1)=BAD; lock(2,0,1)=BAD;"
                + "lock(-1,0,1)=BAD; lock(0,-1,1)=BAD; count(1)=0; lock(1,0,1)=0");
        t("a WIDTH 1 .. 9", "cell(5); cell(5); lock(0,1,0)=BAD; lock(0,1,10)=BAD; lock(0,1,1)=0; lock(0,1,9)=1;"
                + "count(1)=2");
        t("open or shut (at first)",
                "cell(5); cell(5); lock(0,1,9); air(0,3,90); run(1); told(1,3)=0; person(30,0,0); turn(0,0,1)=0");
        t("What left the city is OUT, by CELLS and GASES (WARMTH likewise)",
                "cell(5); cell(5); air(0,5,10); air(1,5,20); air(0,0,100); air(1,0,100); air(0,4,100); air(1,3,100);"
                + "run(1); told(0,10)=1; told(1,10)=2; told(0,14)=1; told(1,13)=2; told(0,13)=0; told(1,14)=0;"
                + "told(0,11)=0; city(7)=5");
        for (int k = 0; k <= 5; k++) {
            String run = "store(K,-1)=BAD; store(K,1000000)=BAD; store(K,LEAST)=BAD; store(K,MOST)=BAD; city(C)=0;"
                    + "store(K,999999)=0; city(C)=999999; store(K,0)=999999; city(C)=0";
            t("STORES: 0 .. 999999 each (0 at first): " + k, run.replace("K", "" + k).replace("C", "" + (8 + k)));
        }
        t("STORES 0 .. 5", "store(-1,0)=BAD; store(6,0)=BAD; city(7)=0; city(14)=BAD");
    }

    private static void works() {
        t("WORKS, 24 at most, numbered from 0",
                "cell(5); work(0,0,1,0,0)=0; 22*work(0,0,1,0,0); work(0,0,2,0,0)=23; work(0,0,1,0,0)=FULL; count(2)=24;"
                + "has(23,2)=2; has(24,2)=BAD; city(3)=25");
        t("each in a CELL", "work(0,0,1,0,0)=BAD; cell(5); work(0,-1,1,0,0)=BAD; work(0,1,1,0,0)=BAD;"
                + "work(0,0,1,0,0)=0; has(0,1)=0; told(0,8)=1");
        t("a MASS 1 .. 9999", "cell(5); work(0,0,0,0,0)=BAD; work(0,0,-1,0,0)=BAD; work(0,0,10000,0,0)=BAD; count(2)=0;"
                + "work(0,0,1,0,0)=0; work(0,0,9999,0,0)=1; has(0,2)=1; has(1,2)=9999");
        t("ON (at first) or off", "cell(5); work(0,0,1,0,0); has(0,3)=1; tune(0,0,0)=1; has(0,3)=0; tune(0,0,2)=BAD;"
                + "has(0,3)=0");
        t("FOUL 0 .. 100 (0)", "cell(5); work(0,0,1,0,0); has(0,4)=0; tune(0,1,99); run(101); has(0,4)=99; run(1);"
                + "has(0,4)=100; run(1); has(0,4)=100");
        t("KINDS 0 .. 6", "cell(5); work(-1,0,1,1,0)=BAD; work(7,0,1,1,0)=BAD; work(LEAST,0,1,0,0)=BAD; count(2)=0");
        t("A SKIN has WORN 0 .. 99 (0)", "cell(5); work(1,0,1,9,0); has(0,7)=0; table(2,30,999); run(1); has(0,7)=99;"
                + "run(1); has(0,7)=98", "cell(5); work(2,0,1,9,0); run(9); has(0,7)=0",
                "cell(5); work(1,0,1,9,0); work(5,0,1,0,99); tune(0,0,0); run(9); has(1,7)=0");
    }

    private static void kinds() {
        t("WORK: 0, 0", "cell(5); work(0,0,1,1,0)=BAD; work(0,0,1,0,1)=BAD; work(0,0,1,-1,0)=BAD; work(0,0,1,0,-1)=BAD;"
                + "work(0,0,1,0,0)=0");
        t("SKIN: LAYERS 1 .. 9, GAS 0 .. 99999", "cell(5); work(1,0,1,0,5)=BAD; work(1,0,1,10,5)=BAD;"
                + "work(1,0,1,5,-1)=BAD; work(1,0,1,5,100000)=BAD; count(2)=0; work(1,0,1,1,0)=0;"
                + "work(1,0,1,9,99999)=1; has(1,5)=9; has(1,6)=99999");
        for (int kind = 2; kind <= 4; kind++) {
            String run = "cell(5); work(K,0,1,0,0)=BAD; work(K,0,1,100,0)=BAD; work(K,0,1,-1,0)=BAD;"
                    + "work(K,0,1,5,1)=BAD; work(K,0,1,5,-1)=BAD; count(2)=0; work(K,0,1,1,0)=0; work(K,0,1,99,0)=1;"
                    + "has(1,5)=99; has(1,6)=0";
            t("GARDEN, STILL: RATE, ROTOR: POWER 1 .. 99 (b 0): " + kind, run.replace("K", "" + kind));
        }
        t("PATCH: the SKIN on which it is (no PATCH)",
                "cell(5); work(5,0,1,0,5)=BAD; work(2,0,1,5,0); work(1,0,1,5,5); work(5,0,1,0,5)=BAD;"
                + "work(5,0,1,-1,5)=BAD; work(5,0,1,2,5)=BAD; work(5,0,1,1,5)=2; work(5,0,1,2,5)=BAD;"
                + "work(5,0,1,3,5)=BAD; work(5,0,1,MOST,5)=BAD; work(5,0,1,LEAST,5)=BAD; count(2)=3; has(2,5)=1;"
                + "has(2,6)=5");
        t("for how many MINUTES it holds 1 .. 9999", "cell(5); work(1,0,1,5,5); work(5,0,1,0,0)=BAD;"
                + "work(5,0,1,0,10000)=BAD; work(5,0,1,0,-1)=BAD; work(5,0,1,0,1)=1; work(5,0,1,0,9999)=2;"
                + "has(2,6)=9999");
        t("PROBE: the HEAT that it bears 1 .. 99999 (b 0)", "cell(5); work(6,0,1,0,0)=BAD; work(6,0,1,100000,0)=BAD;"
                + "work(6,0,1,9,1)=BAD; work(6,0,1,9,-1)=BAD; count(2)=0; work(6,0,1,1,0)=0; work(6,0,1,99999,0)=1;"
                + "has(1,5)=99999");
        t("4 ROTOR, under STILL; 5 PATCH, under SKIN (all are WORKS)",
                "cell(5); work(4,0,1,7,0); work(1,0,1,5,5); work(5,0,1,1,5); work(3,0,1,8,0); as(0,3)=7; as(0,4)=7;"
                + "as(0,0)=7; as(0,1)=KIND; as(2,1)=1; as(2,5)=1; as(2,0)=1; as(2,3)=KIND; as(3,4)=KIND; as(3,3)=8;"
                + "as(1,5)=KIND; as(1,1)=5; as(1,0)=5");
    }

    private static void gone() {
        t("GONE is a WORK that was shed, or let go, or lost",
                "cell(5); work(1,0,5,5,5); work(5,0,1,0,1); work(6,0,1,1,0); work(0,0,9,0,0); count(3)=0; shed()=3;"
                + "has(3,8)=1; drop(2)=30; run(1); has(1,8)=1; has(2,8)=1; has(0,8)=0; count(3)=3; told(0,8)=1");
        t("it stays GONE", "cell(5); work(0,0,9,0,0); shed()=0; run(120); has(0,8)=1; tune(0,0,1)=NO; clean(0)=NO;"
                + "shed()=NO");
        t("GONE: it does nothing",
                "cell(5); work(2,0,9,9,0); air(0,2,50); shed(); run(1); told(0,0)=0",
                "cell(5); work(3,0,9,9,0); air(0,3,50); store(5,9); shed(); run(1); told(0,3)=50; city(13)=9",
                "cell(5); work(4,0,9,1,0); store(5,9); shed(); run(1); city(5)=1; city(13)=9",
                "cell(5); work(1,0,9,9,9); shed(); run(9); has(0,7)=0; has(0,5)=9",
                "cell(5); work(1,0,1,9,0); work(5,0,9,0,5); shed()=1; run(1); has(0,7)=3; has(1,6)=5",
                "cell(5); work(6,0,9,9,0); drop(0); shed()=0; run(1); has(0,9)=30; has(0,10)=0",
                "cell(5); work(0,0,9,0,0); tune(0,1,99); shed(); run(9); has(0,4)=0");
        t("GONE: it weighs nothing", "cell(5); work(0,0,99,0,0); city(3)=99; shed(); city(3)=0; run(1); city(0)=300",
                "cell(5); work(1,0,99,1,100); city(2)=540; shed(); city(2)=0; city(3)=0");
    }

    private static void people() {
        t("PEOPLE, 24 at most, numbered from 0", "cell(5); person(30,0,0)=0; 22*person(30,0,0); birth(0)=23;"
                + "person(30,0,0)=FULL; birth(0)=FULL; count(4)=24; is(23,0)=0; is(24,0)=BAD");
        t("an AGE 0 .. 99", "cell(5); person(-1,0,0)=BAD; person(100,0,0)=BAD; count(4)=0; person(0,0,0)=0;"
                + "person(99,0,0)=1; be(0,0,-1)=BAD; be(0,0,100)=BAD; be(0,0,99)=0; be(1,0,0)=99");
        t("a CRAFT 0 .. 3", "cell(5); person(9,-1,0)=BAD; person(9,4,0)=BAD; person(9,0,0)=0; person(9,3,0)=1;"
                + "be(0,1,4)=BAD; be(0,1,-1)=BAD; be(0,1,3)=0; be(1,1,0)=3");
        t("a CELL", "person(9,0,0)=BAD; cell(5); person(9,0,-1)=BAD; person(9,0,1)=BAD; person(9,0,0)=0; be(0,2,1)=BAD;"
                + "be(0,2,-1)=BAD; cell(5); be(0,2,1)=0; is(0,2)=1; told(1,7)=1; told(0,7)=0");
        t("SICK 0 .. 100 (0; who has 100 is DEAD)", "cell(5); person(9,0,0); is(0,3)=0; be(0,3,-1)=BAD;"
                + "be(0,3,101)=BAD; be(0,3,99)=0; is(0,4)=0; count(5)=0; be(0,3,100)=99; is(0,4)=1; count(5)=1;"
                + "told(0,7)=0");
    }

    private static void gardens() {
        t("A part of n for its FOUL: n times (100 less FOUL) / 100",
                "cell(9); work(2,0,1,99,0); tune(0,1,99); run(102); has(0,4)=100; air(0,2,500); air(0,0,0); run(1);"
                + "told(0,0)=0",
                "cell(9); work(2,0,1,1,0); tune(0,1,50); run(2); has(0,4)=1; air(0,2,5); air(0,0,0); run(1);"
                + "told(0,0)=0",
                "cell(9); work(2,0,1,99,0); tune(0,1,50); run(2); has(0,4)=1; air(0,2,99); air(0,0,0); run(1);"
                + "told(0,0)=98");
        t("GARDEN: as much as there is VAPOUR in its CELL",
                "cell(9); work(2,0,1,5,0); air(0,2,4); run(1); told(0,0)=4; told(0,2)=0; run(1); told(0,0)=4",
                "cell(9); work(2,0,1,5,0); air(0,2,5); run(1); told(0,0)=5; told(0,2)=0",
                "cell(9); cell(9); work(2,0,1,5,0); air(1,2,5); run(1); told(0,0)=0; told(1,2)=5");
        t("GARDEN, by DAY (by PHASE as it is then)",
                "cell(9); work(2,0,1,5,0); air(0,2,99); set(1,2879); run(1); told(0,0)=5; run(1); told(0,0)=5",
                "cell(9); work(4,0,1,1,0); work(2,0,1,5,0); air(0,2,99); store(5,1); set(1,2879); run(1); told(0,0)=0",
                "cell(9); work(4,0,1,1,0); work(2,0,1,5,0); air(0,2,99); store(5,1); set(1,5759); run(1); told(0,0)=5");
        t("WORKS by number, if ON", "cell(9); work(2,0,1,5,0); air(0,2,99); tune(0,0,0); run(1); told(0,0)=0;"
                + "tune(0,0,1); run(1); told(0,0)=5");
    }

    private static void stillsAndRotors() {
        t("STILL: with POWER in the STORE 1 of it goes",
                "cell(9); work(3,0,1,2,0); air(0,3,99); run(1); told(0,3)=99; store(5,1); run(1); city(13)=0;"
                + "told(0,3)=97; run(1); told(0,3)=97", "cell(9); work(3,0,1,2,0); store(5,5); run(1); city(13)=4;"
                + "told(0,2)=0");
        t("as much as there is ACID in its CELL",
                "cell(9); work(3,0,1,9,0); store(5,9); air(0,3,8); run(1); told(0,3)=0; told(0,2)=4; told(0,1)=4;"
                + "run(1); told(0,1)=4");
        t("becomes VAPOUR (half, cut) and CARRIER (the rest)",
                "cell(9); work(3,0,1,1,0); store(5,9); air(0,3,9); run(1); told(0,2)=0; told(0,1)=1; told(0,3)=8",
                "cell(9); work(3,0,1,99,0); store(5,9); air(0,3,99); run(1); told(0,2)=49; told(0,1)=50");
        t("STILL: a part of RATE for its FOUL", "cell(9); work(3,0,1,50,0); tune(0,1,50); run(2); store(5,9);"
                + "air(0,3,99); run(1); told(0,3)=50");
        t("ROTOR: if there is as much POWER, it goes, and PHASE is 1 more",
                "cell(9); work(4,0,1,3,0); store(5,3); run(1); city(13)=0; city(5)=2",
                "cell(9); work(4,0,1,3,0); store(5,2); run(1); city(13)=2; city(5)=1",
                "cell(9); work(4,0,1,3,0); store(5,4); air(0,3,9); run(1); city(13)=1; told(0,3)=9",
                "cell(9); 24*work(4,0,1,1,0); store(5,99); run(1); city(13)=75; city(5)=25");
    }

    private static void patches() {
        t("PATCH: it holds for a MINUTE less; with none left it lets go",
                "cell(9); work(1,0,1,9,0); work(5,0,1,0,1); run(1); has(1,6)=0; has(1,8)=1; has(0,7)=0; run(1);"
                + "has(0,7)=3",
                "cell(9); work(1,0,1,9,0); work(5,0,1,0,2); run(1); has(1,6)=1; has(1,8)=0; run(1); has(1,8)=1;"
                + "has(0,7)=0",
                "cell(9); work(1,0,1,9,0); work(5,0,1,0,9999); run(1); has(1,6)=9998; has(1,8)=0");
        t("if a PATCH that is ON and not GONE is on it nothing",
                "cell(9); work(1,0,1,9,0); work(5,0,1,0,5); tune(1,0,0); run(1); has(0,7)=3; has(1,6)=5; tune(1,0,1);"
                + "run(1); has(0,7)=3; has(1,6)=4",
                "cell(9); work(1,0,1,9,0); work(1,0,1,9,0); work(5,0,1,1,5); run(1); has(0,7)=3; has(1,7)=0",
                "cell(9); work(1,0,1,9,0); work(5,0,1,0,1); work(5,0,1,0,2); run(2); has(0,7)=0; run(1); has(0,7)=3");
        t("(no loss, too)", "cell(9); table(0,30,0); table(2,30,1000); work(1,0,1,1,100); run(1); has(0,5)=0;"
                + "has(0,6)=97; work(5,0,1,0,1); run(1); has(0,6)=97; has(0,7)=0; told(0,11)=3; run(1); has(0,6)=95");
    }

    private static void skinsWear() {
        t("WORN is more by DROPS of the LEVEL / 10",
                "cell(9); work(1,0,1,9,0); table(2,30,9); run(1); has(0,7)=0; table(2,30,10); run(1); has(0,7)=1",
                "cell(9); work(1,0,1,9,0); set(0,0); run(1); has(0,7)=6; set(0,600); run(1); has(0,7)=6");
        t("each full 100 of WORN take a LAYER",
                "cell(9); work(1,0,1,2,0); table(2,30,990); run(1); has(0,7)=99; has(0,5)=2; table(2,30,10); run(1);"
                + "has(0,7)=0; has(0,5)=1", "cell(9); work(1,0,1,9,0); table(2,30,9999); run(1); has(0,5)=0;"
                + "has(0,7)=99",
                "cell(9); work(1,0,1,9,0); table(2,30,2999); run(1); has(0,5)=7; has(0,7)=99");
        t("(as long as there is one; 100 less then; WORN is 99 at most without LAYERS)",
                "cell(9); work(1,0,1,3,0); table(2,30,9999); run(1); has(0,5)=0; has(0,7)=99",
                "cell(9); work(1,0,1,1,0); table(2,30,1990); run(1); has(0,5)=0; has(0,7)=99",
                "cell(9); work(1,0,1,1,0); table(2,30,1000); run(1); has(0,5)=0; has(0,7)=0; table(2,30,30); run(1);"
                + "has(0,7)=3; table(2,30,960); run(1); has(0,7)=99; has(0,5)=0; run(1); has(0,7)=99");
        t("SKIN, if ON", "cell(9); work(1,0,1,9,0); tune(0,0,0); run(5); has(0,7)=0");
    }

    private static void skinsLose() {
        String without = "cell(9); table(0,30,0); table(2,30,1000); work(1,0,1,1,G); run(1); has(0,5)=0; ";
        t("a SKIN that has no LAYERS (by then) loses 1 and GAS / 50 of its GAS",
                without.replace("G", "49") + "has(0,6)=48; told(0,11)=1",
                without.replace("G", "50") + "has(0,6)=48; told(0,11)=2; city(7)=2",
                without.replace("G", "99999") + "has(0,6)=97999; told(0,11)=2000");
        t("as much as there is", without.replace("G", "1") + "has(0,6)=0; told(0,11)=1; run(1); has(0,6)=0;"
                + "told(0,11)=1",
                without.replace("G", "0") + "has(0,6)=0; told(0,11)=0");
        t("with a LAYER it loses none", "cell(9); table(0,30,0); work(1,0,1,1,99); run(9); has(0,6)=99; city(7)=0");
    }

    private static void locks() {
        String two = "cell(A); cell(B); lock(0,1,W); person(30,0,0); turn(0,0,1); be(0,3,100); ";
        String alike = two.replace("A", "10").replace("B", "10");
        t("LOCKS by number, if open", alike.replace("W", "9") + "be(0,3,0); turn(0,0,0)=1; be(0,3,100); air(0,3,99);"
                + "run(1); told(1,3)=0");
        t("what would make both CELLS alike by VOLUME",
                two.replace("A", "1").replace("B", "999").replace("W", "9") + "air(0,1,1); air(1,1,999); run(1);"
                + "told(0,1)=1; told(1,1)=999", two.replace("A", "999").replace("B", "1").replace("W",
                "9") + "air(0,1,1000); run(1); told(1,1)=0; air(0,1,2000); run(1); told(1,1)=1");
        t("WIDTH tenths of it go", alike.replace("W", "1") + "air(0,2,19); run(1); told(1,2)=0; air(0,2,20); run(1);"
                + "told(1,2)=1",
                alike.replace("W", "9") + "air(0,2,20); run(1); told(1,2)=9; told(0,2)=11");
        t("(below 0: the other way)", alike.replace("W", "1") + "air(1,2,19); run(1); told(0,2)=0; air(1,2,20); run(1);"
                + "told(0,2)=1; told(1,2)=19");
        t("for each GAS and WARMTH", alike.replace("W", "5") + "air(0,0,20); air(0,1,40); air(1,2,60); air(1,3,80);"
                + "air(0,4,100); run(1); told(1,0)=5; told(1,1)=10; told(0,2)=15; told(0,3)=20; told(1,4)=25");
        t("the greatest AIR and VOLUMES", two.replace("A", "1").replace("B", "999").replace("W",
                "9") + "air(0,3,999999); run(1); told(0,3)=100900; told(1,3)=899099", two.replace("A",
                "999").replace("B", "1").replace("W", "9")
                + "air(1,3,999999); run(1); told(1,3)=100900; told(0,3)=899099");
    }

    private static void holes() {
        t("HOLE thousandths (it times HOLE / 1000) are OUT",
                "cell(9); air(0,5,1); air(0,0,999); run(1); told(0,0)=999; air(0,0,1000); run(1); told(0,0)=999;"
                + "told(0,10)=1",
                "cell(9); air(0,5,99); air(0,4,10); run(1); told(0,4)=10; air(0,4,11); run(1); told(0,4)=10;"
                + "told(0,14)=1",
                "cell(9); air(0,5,99); air(0,3,999999); run(1); told(0,3)=901000; told(0,13)=98999",
                "cell(9); air(0,3,999999); run(1); told(0,3)=999999; city(7)=0");
    }

    private static void breath() {
        t("NEED is 2 (1 below 12 years)",
                "cell(9); person(11,0,0); air(0,0,9); run(1); told(0,0)=8; be(0,0,12); run(1); told(0,0)=6",
                "cell(9); person(0,0,0); air(0,0,9); run(1); told(0,0)=8; be(0,0,99); run(1); told(0,0)=6");
        t("as much OXYGEN as that of their CELL, if there is, becomes CARRIER (half, cut) and VAPOUR (the rest)",
                "cell(9); person(30,0,0); air(0,0,2); run(1); told(0,0)=0; told(0,1)=1; told(0,2)=1",
                "cell(9); person(30,0,0); air(0,0,1); run(1); told(0,0)=0; told(0,1)=0; told(0,2)=1",
                "cell(9); person(11,0,0); air(0,0,1); run(1); told(0,1)=0; told(0,2)=1",
                "cell(9); person(30,0,0); run(1); told(0,1)=0; told(0,2)=0");
        t("SICK: 5 more, if it was less", "cell(9); person(30,0,0); air(0,0,1); run(1); is(0,3)=5; run(1); is(0,3)=10",
                "cell(9); person(30,0,0); air(0,0,2); run(1); is(0,3)=0", "cell(9); person(11,0,0); air(0,0,1); run(1);"
                + "is(0,3)=0");
        t("3 more, if ACID of the CELL is above its VOLUME",
                "cell(9); person(30,0,0); air(0,0,99); air(0,3,9); run(1); is(0,3)=0; air(0,3,10); run(1); is(0,3)=3;"
                + "air(0,0,0); run(1); is(0,3)=11");
        t("if neither 1 less; within 0 .. 100",
                "cell(9); person(30,0,0); air(0,0,99); be(0,3,1); run(1); is(0,3)=0; run(1); is(0,3)=0; be(0,3,99);"
                + "run(1); is(0,3)=98",
                "cell(9); person(30,0,0); be(0,3,95); run(1); is(0,3)=100", "cell(9); person(30,0,0); be(0,3,94);"
                + "run(1); is(0,3)=99; run(1); is(0,3)=100", "cell(9); person(30,0,0); air(0,3,99); be(0,3,99); run(1);"
                + "is(0,3)=100");
        t("PEOPLE by number, not DEAD", "cell(9); person(30,0,0); air(0,0,9); be(0,3,100); run(1); told(0,0)=9;"
                + "is(0,3)=100",
                "cell(9); person(30,0,0); person(11,0,0); air(0,0,2); run(1); is(0,3)=0; is(1,3)=5",
                "cell(9); person(11,0,0); person(30,0,0); air(0,0,2); run(1); is(0,3)=0; is(1,3)=5; told(0,2)=2");
    }

    private static void above() {
        String sentence = "nothing of AIR comes to be above 999999: what would is OUT by that CELL";
        t(sentence + " (GARDEN)", "cell(9); work(2,0,1,5,0); air(0,0,999995); air(0,2,9); run(1); told(0,0)=999999;"
                + "told(0,10)=1; told(0,2)=4", "cell(9); work(2,0,1,5,0); air(0,0,999994); air(0,2,9); run(1);"
                + "told(0,0)=999999; told(0,10)=0");
        t(sentence + " (STILL)", "cell(9); work(3,0,1,5,0); store(5,9); air(0,1,999997); air(0,2,999998); air(0,3,9);"
                + "run(1); told(0,1)=999999; told(0,11)=1; told(0,2)=999999; told(0,12)=1; told(0,3)=4");
        t(sentence + " (LOCK)", "cell(1); cell(9); lock(0,1,9); person(30,0,0); turn(0,0,1); be(0,3,100);"
                + "air(0,3,999999); air(1,3,999999); run(1); told(0,3)=280000; told(1,3)=999999; told(1,13)=719999;"
                + "told(0,13)=0",
                "cell(9); cell(1); lock(0,1,9); person(30,0,0); turn(0,0,1); be(0,3,100); air(0,4,999999);"
                + "air(1,4,999999); run(1); told(1,4)=280000; told(0,4)=999999; told(0,14)=719999; told(1,14)=0;"
                + "city(7)=0");
        t(sentence + " (LOCK, by 1)", "cell(1); cell(999); lock(0,1,9); person(30,0,0); turn(0,0,1); be(0,3,100);"
                + "air(0,3,1004); air(1,3,999999); run(1); told(0,3)=1003; told(1,3)=999999; told(1,13)=1;"
                + "told(0,13)=0",
                "cell(999); cell(1); lock(0,1,9); person(30,0,0); turn(0,0,1); be(0,3,100); air(1,3,1004);"
                + "air(0,3,999999); run(1); told(1,3)=1003; told(0,3)=999999; told(0,13)=1; told(1,13)=0");
        t(sentence + " (PEOPLE)", "cell(9); person(30,0,0); air(0,0,9); air(0,1,999999); air(0,2,999999); run(1);"
                + "told(0,1)=999999; told(0,11)=1; told(0,2)=999999; told(0,12)=1; city(7)=2");
    }

    private static void weightAndLift() {
        t("LIFT: of each SKIN that is not GONE GAS times DENSE of the LEVEL / 100",
                "cell(9); table(0,30,99); work(1,0,1,9,1); work(1,0,1,9,1); city(2)=0; table(0,30,100); city(2)=2",
                "cell(9); table(0,30,9999); 24*work(1,0,1,9,99999); city(2)=239973600");
        t("of no PATCH", "cell(9); work(1,0,1,9,0); work(5,0,1,0,9999); city(2)=0");
        t("WEIGHT: MASS of all WORKS that are not GONE (PROBES that were dropped aside)",
                "cell(9); work(6,0,7,99999,0); work(0,0,5,0,0); city(3)=12; drop(0); city(3)=5; shed()=0; city(3)=5;"
                + "shed()=1; city(3)=0");
        t("60 for each of PEOPLE who is not DEAD", "cell(9); person(0,0,0); person(99,0,0); city(3)=120; be(0,3,99);"
                + "city(3)=120; be(0,3,100); city(3)=60");
        t("of all GASES in CELLS, and STORES 0 .. 4, together a hundredth",
                "cell(9); cell(9); air(0,0,20); air(0,1,20); air(1,2,20); air(1,3,20); store(0,4); store(1,4);"
                + "store(2,4); store(3,4); store(4,3); city(3)=0; store(4,4); city(3)=1", "cell(9); air(0,4,999999);"
                + "store(5,999999); city(3)=0",
                "cell(9); air(0,0,199); city(3)=1; air(0,0,200); city(3)=2");
    }

    private static void height() {
        String heavy = "cell(9); work(0,0,M,0,0); run(1); ";
        t("HEIGHT is more by (LIFT less WEIGHT) / 10, -9 .. 9 of it at most",
                heavy.replace("M", "9") + "city(0)=300", heavy.replace("M", "10") + "city(0)=299",
                heavy.replace("M", "89") + "city(0)=292", heavy.replace("M", "90") + "city(0)=291",
                heavy.replace("M", "100") + "city(0)=291", heavy.replace("M", "9999") + "city(0)=291",
                "cell(9); table(0,30,100); work(1,0,1,9,90); run(1); city(0)=308", "cell(9); table(0,30,100);"
                + "work(1,0,1,9,91); run(1); city(0)=309", "cell(9); table(0,30,100); work(1,0,1,9,101); run(1);"
                + "city(0)=309",
                "cell(9); work(1,0,1,9,99999); run(1); city(0)=309");
        t("within 0 .. 600", "cell(9); work(0,0,9999,0,0); set(0,9); run(1); city(0)=0; set(0,8); run(1); city(0)=0;"
                + "run(1); city(0)=0",
                "cell(9); work(1,0,1,9,99999); set(0,591); run(1); city(0)=600; set(0,592); run(1); city(0)=600;"
                + "run(1); city(0)=600");
    }

    private static void fouling() {
        t("PHASE is 1 more", "set(1,5); run(1); city(5)=6; run(120); city(5)=126");
        t("RATE OF FOULING (0 .. 99, told; 0 at first)", "cell(9); work(0,0,1,0,0); tune(0,1,-1)=BAD;"
                + "tune(0,1,100)=BAD; tune(0,1,99)=0; tune(0,1,0)=99; run(9); has(0,4)=0");
        t("each full 100 of it makes FOUL 1 more", "cell(9); work(0,0,1,0,0); tune(0,1,99); run(1); has(0,4)=0;"
                + "tune(0,1,1); run(1); has(0,4)=1; run(99); has(0,4)=1; run(1); has(0,4)=2",
                "cell(9); work(0,0,1,0,0); tune(0,1,99); run(1); tune(0,1,0); run(9); has(0,4)=0");
        t("(100 at most)", "cell(9); work(0,0,1,0,0); tune(0,1,99); run(102); has(0,4)=100; run(120); has(0,4)=100;"
                + "clean(0)=100; has(0,4)=0");
        t("FOULING of one that is off", "cell(9); work(0,0,1,0,0); tune(0,1,50); tune(0,0,0); run(2); has(0,4)=1");
    }

    private static void gauges() {
        t("with 0 to 30 places", "cell(9); gauge(0,0,0)=0; read(0,0)=INDEX; gauge(0,0,30)=30; read(0,29)=0;"
                + "read(0,30)=INDEX; gauge(0,1,1)=1; read(0,0)=0; read(0,1)=INDEX; gauge(0,1,31)=BAD;"
                + "gauge(0,1,MOST)=BAD");
        t("or MISSING (at first)", "cell(9); read(0,0)=NOTHING; point(0,0,1)=NOTHING; copy(0,0,0,0,0)=NOTHING;"
                + "worst(0,2)=1");
        t("shorts wrap", "cell(9); gauge(0,0,1); point(0,0,32767)=1; read(0,0)=32767; point(0,0,32768)=1;"
                + "read(0,0)=-32768; point(0,0,-32768)=1; read(0,0)=-32768; point(0,0,-32769)=1; read(0,0)=32767;"
                + "point(0,0,65536)=1; read(0,0)=0; point(0,0,MOST)=1; read(0,0)=-1; point(0,0,LEAST)=1; read(0,0)=0");
        t("floats are not wrapped", "cell(9); gauge(0,1,1); point(0,0,100000)=1; read(0,0)=100000;"
                + "point(0,0,-100000)=1; read(0,0)=-100000; point(0,0,100001)=BAD; point(0,0,-100001)=BAD;"
                + "read(0,0)=-100000");
        t("of NO NUMBER the middle of the places beside it (their eighths together / 2)",
                "cell(9); gauge(0,1,3); point(0,0,3); point(0,1,NONE); point(0,2,4); read(0,1)=3; point(0,0,-3);"
                + "point(0,2,2); read(0,1)=0; point(0,0,100000); point(0,2,100000); read(0,1)=100000");
        t("if both are there and numbers", "cell(9); gauge(0,1,3); point(0,0,NONE); read(0,0)=KIND; point(0,2,NONE);"
                + "read(0,2)=KIND; point(0,1,NONE); read(0,1)=KIND; point(0,0,5); read(0,1)=KIND; point(0,2,5);"
                + "read(0,1)=5",
                "cell(9); gauge(0,1,1); point(0,0,NONE); read(0,0)=KIND");
        t("WORST at a place: over all CELLS the greatest that can be READ",
                "cell(9); cell(9); cell(9); gauge(0,0,1); gauge(1,1,2); point(0,0,-9); point(1,0,-8); worst(0,0)=-8;"
                + "worst(0,1)=1; worst(0,2)=1; worst(1,0)=0; worst(1,2)=2; worst(2,0)=NONE; worst(2,1)=NONE;"
                + "worst(2,2)=3; point(0,0,-8); worst(0,1)=0");
    }

    private static void doubts() {
        t("FAULTS 0 .. 11, TESTS 0 .. 7", "shows(0,-1,1)=BAD; shows(0,12,1)=BAD; shows(-1,0,1)=BAD; shows(8,0,1)=BAD;"
                + "tested(8,1)=BAD; tested(-1,1)=BAD; find(0)=4095; shows(7,11,1)=0; tested(7,1)=1; find(0)=2048");
        t("what a TEST shows (0 .. 3; 0 at first)", "shows(0,0,-1)=BAD; shows(0,0,4)=BAD; shows(0,0,3)=0;"
                + "shows(0,0,0)=3; tested(0,4)=BAD; tested(0,-2)=BAD; tested(0,0)=12");
        t("LEFT are FAULTS with which all that was TESTED agrees", "shows(0,1,1); shows(1,1,2); tested(0,1)=1;"
                + "tested(1,0)=0; find(0)=0; tested(1,2)=1; find(0)=2; tested(0,-1)=1; tested(1,-1)=12");
        t("that by which the greatest number of LEFT ones that show alike is the least",
                "shows(0,0,1); find(1)=0; shows(1,0,3); shows(1,1,3); find(1)=1",
                "shows(3,0,3); shows(3,1,3); shows(3,2,3); shows(3,3,3); shows(3,4,3); shows(3,5,3); shows(3,6,3);"
                + "shows(3,7,2); shows(3,8,2); shows(3,9,2); shows(5,0,1); shows(5,1,1); shows(5,2,1); shows(5,3,1);"
                + "shows(5,4,1); shows(5,5,1); find(1)=5",
                "shows(3,0,3); shows(3,1,3); shows(3,2,3); shows(3,3,3); shows(3,4,3); shows(3,5,3); shows(3,6,3);"
                + "shows(3,7,3); shows(3,8,3); shows(3,9,2); shows(3,10,1); shows(6,0,1); shows(6,1,1); shows(6,2,1);"
                + "shows(6,3,1); find(1)=6");
        t("of several the first", "shows(6,0,1); shows(2,5,3); find(1)=2");
        t("of those not TESTED", "shows(2,0,1); shows(6,0,1); shows(6,1,1); find(1)=6; tested(6,0)=10; find(1)=NONE;"
                + "tested(6,1)=2; find(1)=2");
        t("none, if it would part none", "find(1)=NONE; shows(2,0,1); tested(2,1)=1; find(1)=NONE; tested(2,3)=0;"
                + "find(1)=NONE");
    }

    private static void rounds() {
        t("ROUNDS of patches for n HOURS (1 .. 48)", "cell(9); work(1,0,1,1,0); weather(47,999); lack(0,1)=BAD;"
                + "lack(49,1)=BAD; lack(47,1)=NONE; lack(48,1)=47; lack(1,1)=NONE; sewn(0,1,0,0)=BAD;"
                + "sewn(49,1,0,0)=BAD; sewn(48,1,0,47)=0");
        t("WEATHER of HOUR i: DROPS 0 .. 999, told (0 at first)", "weather(0,-1)=BAD; weather(0,1000)=BAD;"
                + "weather(-1,0)=BAD; weather(48,0)=BAD; weather(0,999)=0; weather(0,0)=999; weather(47,1)=0");
        t("LEAST (told, 0 .. 9)", "cell(9); work(1,0,1,9,0); lack(1,-1)=BAD; lack(1,10)=BAD; lack(1,9)=NONE;"
                + "lack(1,0)=NONE; sewn(1,-1,0,0)=BAD; sewn(1,10,0,0)=BAD; sewn(1,9,0,0)=0");
        t("WORN more by six times WEATHER / 10, and each full 100 takes a LAYER",
                "cell(9); work(1,0,1,1,0); weather(0,166); lack(1,1)=NONE; weather(0,167); lack(1,1)=0; weather(0,166);"
                + "weather(1,1); lack(2,1)=NONE; weather(1,2); lack(2,1)=1",
                "cell(9); work(1,0,1,9,0); weather(0,999); weather(1,1); lack(2,4)=NONE; weather(1,2); lack(2,4)=1");
        t("WORN as it is now", "cell(9); work(1,0,1,1,0); table(2,30,990); run(1); weather(0,1); lack(1,1)=NONE;"
                + "weather(0,2); lack(1,1)=0; has(0,7)=99");
        t("(below 0, too)", "cell(9); work(1,0,1,1,0); person(30,1,0); weather(0,999); sewn(3,1,0,0)=1;"
                + "sewn(3,1,0,1)=1; sewn(3,1,0,2)=1; sewn(48,1,0,4)=1; sewn(48,1,0,5)=0; lack(48,1)=0; lack(1,0)=0");
        t("LACK: the first HOUR behind which some SKIN has fewer LAYERS than LEAST",
                "cell(9); lack(48,9)=NONE; work(1,0,1,3,0); lack(1,3)=NONE; lack(1,4)=0; weather(4,400);"
                + "lack(5,1)=NONE; lack(5,2)=4; work(1,0,1,2,0); lack(5,1)=4; lack(4,1)=NONE");
        t("a SKIN (no PATCH, not GONE)", "cell(9); work(1,0,9,1,0); work(5,0,5,0,9); weather(0,999); lack(1,1)=0;"
                + "shed()=0; lack(1,9)=NONE; sewn(1,9,0,0)=0; sewn(1,9,1,0)=0",
                "cell(9); work(1,0,9,9,0); work(5,0,5,0,9); person(30,1,0); lack(1,9)=NONE; sewn(1,9,1,0)=0",
                "cell(9); work(2,0,9,1,0); person(30,1,0); lack(48,9)=NONE; sewn(1,9,0,0)=0");
    }

    private static void fitters() {
        String skin = "cell(9); work(1,0,1,1,0); weather(0,999); ";
        t("each FITTER who is not DEAD and has SICK 50 at most", skin + "person(30,1,0); sewn(1,1,0,0)=1; be(0,3,50);"
                + "sewn(1,1,0,0)=1; be(0,3,51); sewn(1,1,0,0)=0; be(0,3,100); sewn(1,1,0,0)=0; be(0,3,0); be(0,1,2);"
                + "sewn(1,1,0,0)=0; be(0,1,0); sewn(1,1,0,0)=0; be(0,1,3); sewn(1,1,0,0)=0; be(0,1,1);"
                + "sewn(1,1,0,0)=1");
        t("9 LAYERS at most; each with fewer than 9 LAYERS", "cell(9); work(1,0,1,7,0); work(1,0,1,9,0);"
                + "weather(0,999); 5*person(30,1,0); sewn(1,9,0,0)=2; sewn(1,9,1,0)=0; lack(1,4)=NONE; lack(1,5)=0");
        t("to the SKIN that would fall below LEAST first if nobody sewed any more",
                "cell(9); work(1,0,1,2,0); work(1,0,1,1,0); weather(0,167); weather(1,167); person(30,1,0);"
                + "sewn(2,1,0,0)=0; sewn(2,1,1,0)=1; sewn(2,1,0,1)=1; sewn(2,1,1,1)=0; lack(2,1)=1");
        t("of several the first", "cell(9); work(1,0,1,1,0); work(1,0,1,1,0); weather(0,167); person(30,1,0);"
                + "sewn(1,1,0,0)=1; sewn(1,1,1,0)=0; lack(1,1)=0; person(30,1,0); sewn(1,1,0,0)=1; sewn(1,1,1,0)=1;"
                + "lack(1,1)=NONE");
        t("none that would not within the n HOURS", "cell(9); work(1,0,1,1,0); weather(2,167); person(30,1,0);"
                + "sewn(2,1,0,0)=0; sewn(3,1,0,0)=1; sewn(3,1,0,1)=0; sewn(3,1,0,2)=0; lack(3,1)=NONE");
        t("one FITTER after the other, several to one as well", "cell(9); work(1,0,1,1,0); weather(0,500);"
                + "4*person(30,1,0); sewn(1,1,0,0)=3; sewn(1,0,0,0)=2; lack(1,1)=NONE; lack(1,2)=NONE; lack(1,3)=0");
        t("i not below n; a WORK", skin + "sewn(1,1,0,1)=BAD; sewn(1,1,0,-1)=BAD; sewn(1,1,-1,0)=BAD;"
                + "sewn(1,1,1,0)=BAD");
    }

    private static void dark() {
        t("POWER THROUGH THE DARK: n HOURS (1 .. 24)", "dark(0,0)=BAD; dark(25,0)=BAD; dark(1,0)=0; dark(24,0)=0;"
                + "harm(23,0,5); takes(1,1); takes(2,1); takes(3,1); dark(23,0)=0; dark(24,0)=5; load(24,0,23)=0;"
                + "dark(24,1)=0; load(24,1,23)=1");
        t("a BANK 0 .. 300", "dark(1,-1)=BAD; dark(1,301)=BAD; load(1,-1,0)=BAD; load(1,301,0)=BAD; dark(1,300)=0;"
                + "load(1,300,0)=0");
        t("each takes so much of THE BANK (0 .. 99; 0 at first)", "takes(0,-1)=BAD; takes(0,100)=BAD; takes(0,99)=0;"
                + "takes(0,0)=99; takes(-1,0)=BAD; takes(4,0)=BAD; takes(3,1)=0");
        t("HARM (0 .. 999; 0)", "harm(0,0,-1)=BAD; harm(0,0,1000)=BAD; harm(-1,0,0)=BAD; harm(24,0,0)=BAD;"
                + "harm(0,-1,0)=BAD; harm(0,4,0)=BAD; harm(0,0,999)=0; harm(0,0,0)=999; harm(23,3,1)=0");
        t("with which THE BANK is never below 0", "takes(0,99); takes(1,99); takes(2,99); takes(3,99); dark(1,98)=NONE;"
                + "dark(1,99)=0; dark(3,297)=0; dark(3,296)=NONE; dark(4,300)=NONE; load(1,98,0)=NONE; load(3,297,2)=0;"
                + "load(1,98,1)=BAD");
        t("of several the first (the lesser LOAD at the first at which they differ)",
                "takes(0,2); takes(1,1); takes(2,1); takes(3,1); dark(3,4)=0; load(3,4,0)=0; load(3,4,1)=1;"
                + "load(3,4,2)=1; load(3,5,1)=0; load(3,5,2)=1; load(3,3,0)=1; load(3,6,2)=0");
        t("those with the least HARM together", "takes(0,3); takes(1,1); takes(2,9); takes(3,9); harm(0,1,5);"
                + "harm(1,1,9); harm(0,2,999); dark(2,4)=5; load(2,4,0)=1; load(2,4,1)=0; dark(2,6)=0; load(2,6,0)=0;"
                + "dark(2,2)=14; dark(2,1)=NONE");
    }

    private static void reports() {
        String room = "cell(9); air(0,0,9999); person(30,3,0); ";
        t("as an HOUR begins each CELL in which a WATCH is who is not DEAD sends a REPORT",
                room + "run(59); count(11)=0; run(1); count(11)=1", room + "be(0,1,2); run(60); count(11)=0",
                room + "be(0,3,100); run(60); count(11)=0", room + "cell(9); run(60); count(11)=1; be(0,2,1); run(11);"
                + "known(0,5)=60; known(1,5)=NONE; air(1,0,999); run(60); known(1,5)=120; known(0,5)=60",
                room + "air(0,0,119); be(0,3,95); run(60); is(0,3)=41; count(11)=1",
                room + "person(30,3,0); run(60); count(11)=1");
        t("due LATE MINUTES later (0 .. 99; 10 at first)", "set(3,-1)=BAD; set(3,100)=BAD; set(3,99)=10; set(3,0)=99",
                room + "run(70); known(0,5)=NONE; count(11)=1; run(1); known(0,5)=60; count(11)=0",
                room + "set(3,1); run(61); known(0,5)=NONE; run(1); known(0,5)=60",
                room + "set(3,99); run(120); run(39); known(0,5)=NONE; count(11)=2; run(1); known(0,5)=60; count(11)=1;"
                + "run(59); known(0,5)=60; run(1); known(0,5)=120");
        t("(with 0 at once)", room + "set(3,0); run(60); known(0,5)=60; known(0,0)=9879; known(0,1)=60; known(0,2)=60;"
                + "known(0,3)=0; known(0,4)=0; count(11)=0");
        t("LATE as it is when it is sent", room + "run(60); set(3,99); run(11); known(0,5)=60");
        t("KNOWN is the one that came that was sent last", room + "set(3,99); run(60); set(3,0); run(60);"
                + "known(0,5)=120; count(11)=1; run(40); count(11)=0; known(0,5)=120; known(0,0)=9759",
                room + "set(3,70); run(60); set(3,10); run(71); count(11)=0; known(0,5)=120");
        t("20 CELLS may send", "20*cell(9); person(30,3,0); person(30,3,1); person(30,3,2); person(30,3,3);"
                + "person(30,3,4); person(30,3,5); person(30,3,6); person(30,3,7); person(30,3,8); person(30,3,9);"
                + "person(30,3,10); person(30,3,11); person(30,3,12); person(30,3,13); person(30,3,14);"
                + "person(30,3,15); person(30,3,16); person(30,3,17); person(30,3,18); person(30,3,19); air(0,0,999);"
                + "air(1,0,999); air(2,0,999); air(3,0,999); air(4,0,999); air(5,0,999); air(6,0,999); air(7,0,999);"
                + "air(8,0,999); air(9,0,999); air(10,0,999); air(11,0,999); air(12,0,999); air(13,0,999);"
                + "air(14,0,999); air(15,0,999); air(16,0,999); air(17,0,999); air(18,0,999); air(19,0,998); set(3,99);"
                + "run(60); count(11)=20; run(60); count(11)=40; run(40); count(11)=20; known(0,0)=879;"
                + "known(18,0)=879; known(19,0)=878");
    }

    private static void probes() {
        t("dropped from the LEVEL where the city is", "cell(9); work(6,0,1,99999,0); work(6,0,1,99999,0);"
                + "has(0,9)=NONE; drop(0)=30; has(0,9)=30; set(0,600); drop(1)=60; has(1,9)=60; has(0,9)=30;"
                + "has(0,10)=0");
        t("it falls a LEVEL (from LEVEL 0 none), and takes HEAT of the LEVEL where it is then",
                "cell(9); work(6,0,1,99999,0); set(0,10); drop(0)=1; table(1,1,7); run(1); has(0,9)=0; has(0,10)=600;"
                + "run(1); has(0,9)=0; has(0,10)=1200", "cell(9); work(6,0,1,99999,0); set(0,0); drop(0)=0; run(1);"
                + "has(0,9)=0; has(0,10)=600",
                "cell(9); work(6,0,1,99999,0); set(0,600); drop(0)=60; run(1); has(0,9)=59; has(0,10)=10");
        t("if ON", "cell(9); work(6,0,1,99999,0); drop(0); tune(0,0,0); run(9); has(0,9)=30; has(0,10)=0");
        t("when HEAT that it took is above what it bears it is lost, GONE",
                "cell(9); work(6,0,1,310,0); work(6,0,1,309,0); drop(0); drop(1); run(1); has(0,8)=0; has(1,8)=1;"
                + "has(0,10)=310; has(1,10)=310; run(1); has(0,8)=1; has(0,10)=630; has(1,10)=310; run(1);"
                + "has(0,10)=630");
        t("DEPTH foretold: how many MINUTES till it is lost", "cell(9); work(6,0,1,309,0); work(6,0,1,310,0);"
                + "depth(0)=1; depth(1)=2; set(0,0); depth(0)=1; table(1,0,0); depth(0)=1000; table(1,0,1);"
                + "depth(0)=310; depth(1)=311");
        t("(1000, if not within 1000)", "cell(9); work(6,0,1,99999,0); set(0,0); table(1,0,100); depth(0)=1000;"
                + "table(1,0,99); depth(0)=1000; table(1,0,101); depth(0)=991; table(1,0,0); depth(0)=1000",
                "cell(9); work(6,0,1,99000,0); work(6,0,1,98999,0); set(0,0); table(1,0,99); depth(0)=1000;"
                + "depth(1)=1000; table(1,0,100); depth(0)=991");
    }

    private static void ships() {
        t("SHIPS, 6 at most", "ship(2,0,1)=0; 4*ship(2,0,1); ship(9,0,1)=5; ship(2,0,1)=FULL; count(8)=6; window(5)=0;"
                + "window(6)=BAD; window(-1)=BAD");
        t("an ORBIT 2 .. 9999", "ship(1,0,1)=BAD; ship(10000,0,1)=BAD; ship(2,0,1)=0; ship(9999,0,1)=1; count(8)=2");
        t("a BEGIN 0 .. 9999", "ship(9,-1,1)=BAD; ship(9,10000,1)=BAD; ship(9,0,1)=0; ship(9999,9999,1)=1; window(1)=0;"
                + "window(0)=0");
        t("a WINDOW 1 .. 999", "ship(9,0,0)=BAD; ship(9,0,1000)=BAD; ship(2000,1000,1)=0; ship(2000,1000,999)=1;"
                + "run(1); window(0)=1000; window(1)=1000; set(2,9999); set(1,0); window(1)=1000",
                "ship(2000,1001,999); run(1); window(0)=1001", "ship(1999,1001,999); window(0)=0; run(1);"
                + "window(0)=1001");
        t("(t less BEGIN)'s rest by ORBIT (0 .. ORBIT - 1) is below WINDOW", "ship(10,7,2); window(0)=7; run(8);"
                + "window(0)=8; run(1); window(0)=17", "ship(10,9,3); window(0)=0; run(1); window(0)=1; run(1);"
                + "window(0)=9",
                "ship(10,109,3); window(0)=0; run(2); window(0)=9", "ship(2,9999,1); window(0)=1; run(1); window(0)=1;"
                + "run(1); window(0)=3");
        t("by DAY (with PHASE going on by 1 a MINUTE)", "ship(2,0,2); window(0)=0; set(1,2879); window(0)=0;"
                + "set(1,2880); window(0)=2880; set(1,5759); window(0)=1");
        t("(12000 later at most)", "set(2,4001); set(1,100); ship(6001,5999,1); ship(6002,5999,1); window(0)=12000;"
                + "window(1)=NONE; run(1); set(1,101); window(1)=12001");
    }

    private static void lots() {
        t("LOTS, 10 at most", "lot(1,0)=0; 8*lot(1,0); lot(1,5)=9; lot(1,0)=FULL; count(9)=10; cargo(1)=512");
        t("MASS 1 .. 9999", "lot(0,0)=BAD; lot(-1,0)=BAD; lot(10000,0)=BAD; count(9)=0; lot(1,1)=0; lot(9999,1)=1;"
                + "cargo(10000)=3; cargo(9999)=1");
        t("WORTH 0 .. 999", "lot(1,-1)=BAD; lot(1,1000)=BAD; count(9)=0; lot(1,0)=0; lot(1,999)=1; cargo(9)=2");
        t("not heavier", "lot(5,9); cargo(4)=0; cargo(5)=1", "10*lot(9999,999); cargo(99990)=1023; cargo(99989)=511;"
                + "cargo(99999)=1023; cargo(9998)=0");
        t("of several the lightest", "lot(5,7); lot(4,7); cargo(5)=2; cargo(8)=2; cargo(9)=3", "lot(5,0); cargo(9)=0",
                "lot(3,4); lot(3,3); lot(5,7); cargo(6)=4; cargo(5)=4; lot(4,7); cargo(6)=8");
        t("then the least as bits", "lot(4,7); lot(4,7); lot(4,7); cargo(4)=1; cargo(8)=3", "lot(3,3); lot(2,2);"
                + "lot(1,1); cargo(3)=1");
        t("a MASS (0 .. 99999)", "cargo(-1)=BAD; cargo(100000)=BAD; cargo(0)=0; cargo(99999)=0; lot(1,1); cargo(0)=0;"
                + "cargo(99999)=1");
    }

    private static void builds() {
        t("BUILDS, 7 at most", "build(1,1,0)=0; 5*build(1,1,0); build(1,9,0)=6; build(1,1,0)=FULL; count(10)=7;"
                + "planned(9,0)=6; planned(9,6)=5; planned(9,7)=NONE");
        t("YEARS 1 .. 9 that it takes", "build(0,1,0)=BAD; build(10,1,0)=BAD; count(10)=0; build(9,1,0)=0;"
                + "plan(10,9)=1; plan(9,9)=0",
                "build(1,1,0)=0; plan(2,9)=1; plan(1,9)=0");
        t("FOR how many it lets live more (1 .. 99)", "build(1,0,0)=BAD; build(1,100,0)=BAD; build(1,99,0)=0;"
                + "plan(60,9)=5841");
        t("AHEAD (bits)", "build(1,1,-1)=BAD; build(1,1,128)=BAD; build(1,1,LEAST)=BAD; count(10)=0; build(1,1,127)=0;"
                + "plan(9,9)=NO",
                "build(1,1,2)=0; build(1,1,0)=1; planned(9,0)=1; planned(9,1)=0");
        t("within so many YEARS (1 .. 60)", "plan(0,1)=BAD; plan(61,1)=BAD; plan(1,1)=0; plan(60,1)=0;"
                + "planned(0,0)=BAD; planned(61,0)=BAD; planned(60,0)=NONE; check(1,0,0)=BAD; check(1,61,0)=BAD;"
                + "check(1,60,0)=0");
        t("(a BUILD counts in YEARS behind that in which it is done)", "build(3,5,0); plan(3,9)=0; plan(4,9)=5;"
                + "plan(5,9)=10");
        t("of several the first (by numbers)", "build(2,2,0); build(2,2,0); planned(9,0)=0; planned(9,1)=1",
                "build(1,2,0); build(2,4,0); plan(9,9)=40; planned(9,0)=0", "build(9,9,0); build(9,99,0);"
                + "planned(9,0)=0; plan(9,9)=0");
        t("one that ends beyond the YEARS may be put, too", "build(9,9,0); build(9,9,0); plan(1,4)=0; plan(1,3)=SPENT;"
                + "planned(1,1)=1; tell(0); tell(9); tell(1); tell(18); check(1,1,0)=0");
        t("SPENT: more than so many TRIES would be done", "build(1,1,0); plan(9,1)=8; build(1,1,0); plan(9,3)=SPENT;"
                + "plan(9,4)=15; build(1,1,3); plan(9,5)=SPENT; plan(9,6)=21", "7*build(1,1,0); plan(9,13698)=SPENT;"
                + "plan(9,13699)=35; plan(9,20000)=35",
                "plan(9,0)=BAD; plan(9,20001)=BAD; plan(9,-1)=BAD");
        t("Without an order of all (AHEAD in a ring): none", "build(1,1,1)=0; plan(9,1)=NO; planned(9,0)=NO;"
                + "check(1,9,0)=NO",
                "build(1,1,2); build(1,1,1); build(1,1,0); plan(9,1)=NO; plan(9,9)=NO", "build(1,1,0); build(1,1,4);"
                + "build(1,1,2); build(1,1,0); plan(9,3)=SPENT; plan(9,4)=NO");
    }

    private static void images() {
        t("AN IMAGE keeps all but GAUGES", "cell(9); gauge(0,0,2); point(0,0,5); keep()=0; point(0,0,6); back()=0;"
                + "read(0,0)=6; gauge(0,1,1); back(); read(0,1)=INDEX; read(0,0)=0; gauge(0,-1,0); back();"
                + "read(0,0)=NOTHING");
        t("all but numbers that wait", "tell(5); keep(); tell(6); back(); count(12)=2; check(1,1,0)=1; back();"
                + "count(12)=0");
        t("all but THE TAPE", "tape(\"share 1\"); keep(); trim(5); back(); count(13)=5; text()=-105; back();"
                + "count(13)=0");
        t("all can become as it is (again and again)", "cell(9); keep()=0; cell(9); back()=0; count(0)=1; run(5);"
                + "back()=0; city(6)=0; run(7); cell(9); back()=0; count(0)=1; keep()=0; back()=0");
        t("all of PEOPLE, LOCKS, WORKS is as it was", "cell(9); cell(9); air(0,0,9999); lock(0,1,1); lock(1,0,1);"
                + "person(30,1,0); turn(1,0,1); work(2,1,5,5,0); work(6,0,5,9999,0); tune(0,1,50); run(3); keep()=3;"
                + "be(0,0,40); be(0,1,2); be(0,2,1); be(0,3,70); turn(0,0,1); turn(1,0,0); tune(0,0,0); tune(0,1,9);"
                + "clean(0)=1; drop(1); shed()=0; run(20); back()=3; is(0,0)=30; is(0,1)=1; is(0,2)=0; is(0,3)=0;"
                + "turn(0,0,0)=0; turn(1,0,1)=1; has(0,3)=1; has(0,4)=1; has(0,8)=0; has(1,9)=NONE; has(1,10)=0;"
                + "tune(0,1,50)=50; run(1); has(0,4)=2");
        t("all of the charter is as it was", ONE + "law(\"share 0\"); text(\"share 1\"); text(\"open 1\"); hold(1)=0;"
                + "say(0,1); keep()=60; tally()=1; hold(0)=1; say(0,1); tally()=1; hold(0)=NO; hold(2)=0;"
                + "text(\"vote 0\")=3; run(60); why(0)=1; back()=60; count(6)=3; count(14)=1; of(0,2)=NONE;"
                + "of(1,1)=NONE; hold(2)=NO; say(0,1)=NO; tally()=1; of(1,1)=2; of(1,2)=NONE; of(0,2)=NONE; of(0,1)=1;"
                + "text(\"birth 0\")=3; of(3,0)=3",
                ONE + "law(\"share 0\"); text(\"share 1\"); hold(1)=0; say(0,1); keep(); tally(); hold(0)=1; say(0,1);"
                + "back(); tally()=1; of(1,1)=2; of(1,2)=NONE; of(0,2)=NONE", ONE + "law(\"share 0\");"
                + "text(\"share 1\"); hold(0)=1; say(0,1); keep(); tally(); hold(1)=0; say(0,1); back(); tally()=1;"
                + "of(0,2)=2; of(0,1)=1; of(1,1)=NONE");
        t("all that was told is as it was", "shows(7,11,3); tested(7,3)=1; weather(47,9); takes(3,9); harm(23,3,9);"
                + "table(2,60,9); set(0,9); set(1,9); set(2,9); set(3,9); store(5,9); keep(); shows(7,11,0);"
                + "tested(7,-1); weather(47,8); takes(3,8); harm(23,3,8); table(2,60,8); set(0,8); set(1,8); set(2,8);"
                + "set(3,8); store(5,8); back(); find(0)=2048; shows(7,11,3)=3; weather(47,0)=9; takes(3,0)=9;"
                + "harm(23,3,0)=9; table(2,60,0)=9; set(0,0)=9; set(1,0)=9; set(2,2)=9; set(3,0)=9; store(5,0)=9");
        t("SHIPS, LOTS, BUILDS are as they were", "ship(50,9,1); lot(5,5); build(1,5,0); keep(); ship(50,8,1);"
                + "lot(4,5); build(1,9,0); back(); count(8)=1; count(9)=1; count(10)=1; window(0)=9; window(1)=BAD;"
                + "cargo(9)=1; plan(2,9)=5; ship(50,7,1)=1; lot(4,6)=1; build(1,8,0)=1; window(1)=7; cargo(5)=2;"
                + "planned(9,0)=1");
        t("REPORTS are as they were", ONE + "be(0,1,3); cell(9); person(30,3,1); air(1,0,999); run(60); count(11)=2;"
                + "keep(); run(120); known(0,5)=120; known(1,5)=120; back()=60; count(11)=2; known(0,5)=NONE;"
                + "known(1,5)=NONE; run(11); known(0,5)=60; known(0,0)=99879; known(1,5)=60; known(1,0)=879;"
                + "count(11)=0; back()=60; count(11)=2; known(1,0)=NONE");
        t("what is made again is new", "cell(9); keep(); cell(9); air(1,3,5); air(1,4,5); air(1,5,99); air(1,0,500);"
                + "lock(0,1,9); person(30,3,1); be(0,3,50); turn(0,0,1); work(1,1,5,1,99); work(6,1,5,9999,0);"
                + "tune(0,1,99); drop(1); table(2,30,999); run(3); shed(); back(); cell(8)=1; told(1,3)=0; told(1,4)=0;"
                + "told(1,5)=0; told(1,0)=0; told(1,10)=0; told(1,11)=0; told(1,13)=0; lock(1,0,1)=0; person(30,0,0)=0;"
                + "is(0,3)=0; turn(0,0,0)=0; work(1,0,7,2,7)=0; has(0,4)=0; has(0,7)=0; has(0,8)=0; tune(0,1,0)=0;"
                + "work(6,0,7,9,0)=1; has(1,9)=NONE; has(1,10)=0; has(1,8)=0; tune(0,1,1); run(2); has(0,4)=0");
        t("there is no IMAGE", "back()=NO; check(2,1,0)=NO; run(5); back()=NO; city(6)=5");
    }

    private static void dayTold() {
        t("THE DAY TOLD: each in its own CELL", "cell(9); cell(9); air(0,0,500); person(30,0,1); keep(); tell(186);"
                + "tell(500); check(2,1,0)=0",
                "cell(9); cell(9); work(2,1,1,1,0); air(1,2,100); keep(); tell(300); tell(60); tell(300); tell(100);"
                + "check(2,2,0)=0");
        String room = "cell(9); cell(9); air(0,0,200); air(1,0,50); person(30,0,0); ";
        t("THE DAY TOLD: HEIGHT and OXYGEN of all CELLS together behind each of n HOURS from THE IMAGE on",
                room + "keep(); be(0,3,100); air(0,0,0); tell(0); tell(130); check(2,1,0)=0; tell(0); tell(130);"
                + "tell(0); tell(50); check(2,2,0)=0; tell(0); tell(130); tell(0); tell(50); tell(0); tell(50);"
                + "check(2,3,9)=0; city(6)=0; told(0,0)=0",
                room + "run(30); keep()=30; tell(0); tell(70); check(2,1,0)=0");
        t("numbers that waited (none do then)", "tell(9); tell(9); tell(9); tell(9); tell(9); check(0,1,0)=1; tell(0);"
                + "tell(0); check(0,1,0)=0; tell(0); check(0,1,0)=2; tell(0); tell(0); tell(0); check(0,1,0)=3; keep();"
                + "tell(300); tell(0); check(2,1,0)=0; check(1,1,0)=0",
                "build(1,1,0); tell(0); tell(2); tell(7); tell(7); check(1,9,0)=2; tell(0); tell(1); check(1,9,0)=0;"
                + "count(12)=0");
        t("n HOURS 1 .. 24", "keep(); check(2,0,0)=BAD; check(2,25,0)=BAD; check(2,24,0)=1; check(2,1,0)=1");
        t("it goes on beyond MINUTE 20000", "166*run(120); run(79)=19999; keep()=19999; tell(300); tell(0);"
                + "check(2,1,0)=0; run(1)=20000; run(1)=FULL");
    }
}
