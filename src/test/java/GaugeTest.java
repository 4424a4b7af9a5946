/** Promises 38 to 42: gauges. */
public final class GaugeTest {
    private static final int BAD = AcidCity.BAD, NONE = AcidCity.NONE, NOTHING = AcidCity.NOTHING,
            KIND = AcidCity.KIND, INDEX = AcidCity.INDEX, SIZE = AcidCity.SIZE;
    private static final Due d = new Due();

    public static void main(String[] args) {
        gauges();
        points();
        reads();
        worsts();
        copies();
        newCells();
        d.end();
    }

    private static AcidCity rows(int... sorts) {
        AcidCity x = new AcidCity();
        for (int i = 0; i < sorts.length; i++) {
            x.cell(5);
            x.gauge(i, sorts[i], 5);
        }
        return x;
    }

    private static void put(AcidCity x, int cell, int... v) {
        for (int i = 0; i < v.length; i++) {
            d.eq("point", x.point(cell, i, v[i]), 1);
        }
    }

    private static void gauges() {
        AcidCity x = new AcidCity();
        d.eq("no CELL", x.gauge(0, 0, 1), BAD);
        x.cell(5);
        d.eq("MISSING at first", x.read(0, 0), NOTHING);
        d.eq("sort 2", x.gauge(0, 2, 1), BAD);
        d.eq("sort -2", x.gauge(0, -2, 1), BAD);
        d.eq("31", x.gauge(0, 0, 31), BAD);
        d.eq("-1", x.gauge(0, 1, -1), SIZE);
        d.eq("least", x.gauge(0, 0, Integer.MIN_VALUE), SIZE);
        d.eq("BAD ahead of SIZE", x.gauge(1, 0, -1), BAD);
        d.eq("BAD ahead of SIZE", x.gauge(0, 3, -1), BAD);
        d.eq("refused: still MISSING", x.read(0, 0), NOTHING);
        d.eq("30", x.gauge(0, 0, 30), 30);
        d.eq("all 0", x.read(0, 29), 0);
        x.point(0, 2, 7);
        d.eq("0 places", x.gauge(0, 1, 0), 0);
        d.eq("no place", x.read(0, 0), INDEX);
        d.eq("anew", x.gauge(0, 0, 5), 5);
        d.eq("all 0 again", x.read(0, 2), 0);
        d.eq("MISSING, n any", x.gauge(0, -1, -5), 0);
        d.eq("MISSING", x.read(0, 2), NOTHING);
        d.eq("MISSING, n any", x.gauge(0, -1, 31), 0);
        d.eq("no CELL", x.gauge(1, -1, 0), BAD);
        d.eq("CELL -1", x.gauge(-1, -1, 0), BAD);
    }

    private static void points() {
        AcidCity x = rows(0, 1, -1);
        d.eq("CELL 3", x.point(3, 0, 0), BAD);
        d.eq("CELL -1", x.point(-1, 0, 0), BAD);
        d.eq("MISSING", x.point(2, 9, NONE), NOTHING);
        d.eq("place 5", x.point(0, 5, 0), INDEX);
        d.eq("place -1", x.point(0, -1, NONE), INDEX);
        d.eq("NONE in shorts", x.point(0, 0, NONE), KIND);
        d.eq("as a short", x.point(0, 0, 32768), 1);
        d.eq("as a short", x.read(0, 0), -32768);
        d.eq("as a short", x.point(0, 0, Integer.MAX_VALUE), 1);
        d.eq("as a short", x.read(0, 0), -1);
        d.eq("INDEX ahead of BAD", x.point(1, 5, 100001), INDEX);
        d.eq("above", x.point(1, 0, 100001), BAD);
        d.eq("below", x.point(1, 0, -100001), BAD);
        d.eq("most", x.point(1, 0, 100000), 1);
        d.eq("least", x.point(1, 1, -100000), 1);
        d.eq("read", x.read(1, 0), 100000);
        d.eq("read", x.read(1, 1), -100000);
        d.eq("refused ones change nothing", x.read(1, 2), 0);
    }

    private static void reads() {
        AcidCity x = rows(1, 1);
        put(x, 0, NONE, 3, NONE, 4, NONE);
        d.eq("at the begin", x.read(0, 0), KIND);
        d.eq("3", x.read(0, 1), 3);
        d.eq("(3 + 4) / 2", x.read(0, 2), 3);
        d.eq("at the end", x.read(0, 4), KIND);
        put(x, 0, -3, NONE, -4, NONE, NONE);
        d.eq("(-3 - 4) / 2 cuts towards 0", x.read(0, 1), -3);
        d.eq("a neighbour is none", x.read(0, 3), KIND);
        d.eq("CELL 2", x.read(2, 0), BAD);
        d.eq("CELL -1", x.read(-1, 0), BAD);
        d.eq("place 5", x.read(0, 5), INDEX);
        d.eq("place -1", x.read(0, -1), INDEX);
        x.gauge(1, -1, 0);
        d.eq("NOTHING ahead of INDEX", x.read(1, -1), NOTHING);
    }

    private static void worsts() {
        AcidCity x = rows(0, 1, -1, 1);
        put(x, 0, -5, 2, -1);
        put(x, 1, -4, 2, NONE, -2, NONE);
        put(x, 3, -4, 9, NONE, NONE, NONE);
        int[][] due = {{-4, 1, 1}, {9, 3, 1}, {0, 1, 2}, {0, 0, 2}, {0, 0, 3}};
        for (int place = 0; place < due.length; place++) {
            for (int what = 0; what < 3; what++) {
                d.eq("worst(" + place + ", " + what + ")", x.worst(place, what), due[place][what]);
            }
        }
        d.eq("no such place", x.worst(5, 0), NONE);
        d.eq("no such place", x.worst(5, 1), NONE);
        d.eq("no such place", x.worst(5, 2), 4);
        d.eq("far", x.worst(Integer.MAX_VALUE, 2), 4);
        d.eq("place -1", x.worst(-1, 2), BAD);
        d.eq("what 3", x.worst(0, 3), BAD);
        d.eq("what -1", x.worst(0, -1), BAD);
        AcidCity none = new AcidCity();
        d.eq("no CELLS", none.worst(0, 0), NONE);
        d.eq("no CELLS", none.worst(0, 2), 0);
    }

    private static void row(AcidCity x, int cell, int... due) {
        for (int i = 0; i < due.length; i++) {
            d.eq("row of " + cell + " at " + i, x.read(cell, i), due[i]);
        }
    }

    private static void copies() {
        AcidCity x = rows(0, 0, 1, 1, -1);
        put(x, 0, 1, 2, 3, 4, 5);
        d.eq("copy", x.copy(0, 1, 1, 3, 2), 2);
        row(x, 1, 0, 0, 0, 2, 3);
        d.eq("up in itself", x.copy(0, 0, 0, 2, 3), 3);
        row(x, 0, 1, 2, 1, 2, 3);
        d.eq("down in itself", x.copy(0, 1, 0, 0, 4), 4);
        row(x, 0, 2, 1, 2, 3, 3);
        d.eq("none", x.copy(0, 5, 1, 5, 0), 0);
        put(x, 2, 8, NONE, 6, NONE, NONE);
        d.eq("NO NUMBER as it was", x.copy(2, 1, 3, 0, 2), 2);
        row(x, 3, KIND, 6, 0);
        d.eq("CELL 5", x.copy(5, 0, 0, 0, 1), BAD);
        d.eq("to CELL 5", x.copy(0, 0, 5, 0, 1), BAD);
        d.eq("CELL -1", x.copy(-1, 0, 0, 0, 1), BAD);
        d.eq("from MISSING", x.copy(4, 9, 2, 9, 1), NOTHING);
        d.eq("to MISSING", x.copy(0, 9, 4, 9, 1), NOTHING);
        d.eq("KIND ahead of INDEX", x.copy(0, 9, 2, 9, 9), KIND);
        d.eq("too many", x.copy(0, 0, 1, 0, 6), INDEX);
        d.eq("too many there", x.copy(0, 0, 1, 3, 3), INDEX);
        d.eq("too many here", x.copy(0, 3, 1, 0, 3), INDEX);
        d.eq("place -1", x.copy(0, -1, 1, 0, 1), INDEX);
        d.eq("at -1", x.copy(0, 0, 1, -1, 1), INDEX);
        d.eq("none from -1", x.copy(0, -1, 1, 0, 0), INDEX);
        d.eq("none from 6", x.copy(0, 6, 1, 0, 0), INDEX);
        d.eq("most", x.copy(0, 1, 1, 1, Integer.MAX_VALUE), INDEX);
        d.eq("below 0", x.copy(0, 1, 1, 1, -1), INDEX);
        row(x, 1, 0, 0, 0, 2, 3);
    }

    private static void newCells() {
        AcidCity x = new AcidCity();
        x.cell(5);
        x.keep();
        x.cell(5);
        x.gauge(0, 0, 2);
        x.gauge(1, 0, 2);
        x.back();
        d.eq("an image keeps no GAUGES", x.read(0, 1), 0);
        d.eq("no such CELL", x.read(1, 0), BAD);
        x.cell(5);
        d.eq("a new CELL has none", x.read(1, 0), NOTHING);
    }
}
