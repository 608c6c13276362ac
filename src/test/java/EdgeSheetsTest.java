/** The edges of promises 38 to 44: images, sheets, how many there are. */
public final class EdgeSheetsTest {
    private static final int BAD = Twins.BAD, STATE = Twins.STATE, NONE = Twins.NONE;
    private static final int MIN = Twins.MIN, MAX = Twins.MAX;
    private static final int NULL = 1, INDEX = 2, CAST = 3;
    private static final Twins t = new Twins("EdgeSheetsTest");

    public static void main(String[] args) {
        keep();
        back();
        imagesOfAll();
        sheet();
        lay();
        lowestBits();
        readBad();
        readFaults();
        readRefused();
        readOrder();
        torn();
        count();
        t.end();
    }

    // ---- promises 38, 39

    private static void keep() {
        t.bad("keep(#)", Twins::rich, (y, i) -> y.keep(i), -1, 2, MIN, MAX);
        YesterStreet x = new YesterStreet();
        for (int k = 0; k < 2; k++) {
            t.due("keep(" + k + "), the first", x.keep(k), 0);
            t.due("count(1)", x.count(1), k + 1);
            t.due("keep(" + k + ") again", x.keep(k), 1);
            t.due("count(1)", x.count(1), k + 1);
        }
        x.text();
        t.due("count(1) behind a text", x.count(1), 0);
        t.due("keep(0) behind a text", x.keep(0), 0);
        t.due("keep(1) behind a text", x.keep(1), 0);
    }

    private static void back() {
        t.bad("back(#)", Twins::rich, (y, i) -> y.back(i), -1, 2, MIN, MAX);
        t.bad("back(#), BAD ahead of STATE", YesterStreet::new, (y, i) -> y.back(i), -1, 2);
        t.same("back(0), there is none", Twins::rich, y -> y.back(0), STATE);
        t.same("back(0) of a new one", YesterStreet::new, y -> y.back(0), STATE);
        t.same("back(1) of a new one", YesterStreet::new, y -> y.back(1), STATE);
        YesterStreet x = Twins.rich();
        t.due("back(1)", x.back(1), 6);
        t.due("DAY as it was", x.rule(6), 2);
        t.due("SEEN stays", x.count(0), 2);
        t.due("THE TAPE stays", x.count(2), 24);
        t.due("the FAULT stays", x.fault(), 3);
        t.due("torn() stays", x.torn(), INDEX);
        t.due("SHEETS stay", x.lay(1, 5, 0), 1);
        t.due("the IMAGE stays", x.count(1), 1);
        t.due("back(1) again", x.back(1), 6);
        x.text();
        t.due("back(1) behind a text", x.back(1), STATE);
    }

    /** An IMAGE holds each thing that the document names, apart from what comes behind. */
    private static void imagesOfAll() {
        String eight = "street6 4;rule3 5 0not1;rule0 0;rule0 1;rule0 2;rule0 3;rule0 4;rule1 0;rule2 4 5not0;"
            + "worth0 9;debt5 9;home3;home0;stop5;stop4;today5;today0;";
        YesterStreet x = t.told(eight);
        for (int i = 0; i < 16; i++) x.day(60);
        x.day(39);
        for (int n = 0; n < 4; n++) x.write(n, n < 2);
        t.due("keep(0)", x.keep(0), 0);
        x.pay(0, -9);
        x.pay(5, 9);
        x.need(7, 1, true);
        x.bar(7, 0, false);
        x.cut(1);
        for (int p = 0; p < 4; p++) x.home(p, p == 1);
        for (int n = 0; n < 6; n++) x.stop(n, n == 0);
        x.write(3, true);
        t.due("keep(1)", x.keep(1), 0);
        t.due("back(0)", x.back(0), 3);
        t.due("keep(1) like 0", x.keep(1), 1);
        t.due("DAY, the last", x.rule(6), 999);
        t.due("RULES, all", x.rule(2), 8);
        // one that was never changed
        YesterStreet y = t.told(eight);
        for (int i = 0; i < 16; i++) y.day(60);
        y.day(39);
        for (int n = 0; n < 4; n++) y.write(n, n < 2);
        y.keep(0);
        y.keep(1);
        t.due("all as it was", Twins.Probe.PLAIN.ask(x).equals(Twins.Probe.PLAIN.ask(y)) ? 1 : 0, 1);
    }

    // ---- promise 40

    private static void sheet() {
        t.bad("sheet(#, 0, 1)", Twins::rich, (y, i) -> y.sheet(i, 0, 1), -1, 4, MIN, MAX);
        t.bad("sheet(1, #, 1)", Twins::rich, (y, i) -> y.sheet(1, i, 1), -1, 3, MIN, MAX);
        t.bad("sheet(1, 0, #)", Twins::rich, (y, i) -> y.sheet(1, 0, i), 41, 42, MAX);
        t.bad("sheet(#, 0, -1), BAD ahead of SIZE", Twins::rich, (y, i) -> y.sheet(i, 0, -1), -1, 4);
        t.bad("sheet(1, #, -1), BAD ahead of SIZE", Twins::rich, (y, i) -> y.sheet(1, i, -1), -1, 3);
        for (int n : new int[] {-1, -2, -40, MIN}) {
            t.same("sheet(1, 0, " + n + ")", Twins::rich, y -> y.sheet(1, 0, n), -14);
            t.same("sheet(0, 2, " + n + ") on nothing", Twins::rich, y -> y.sheet(0, 2, n), -14);
        }
        for (int k = 0; k < 4; k++) {
            for (int lane = 0; lane < 3; lane++) {
                YesterStreet x = Twins.rich();
                x.end(0);
                x.write(0, false);
                t.due("sheet(" + k + ", " + lane + ", 0)", x.sheet(k, lane, 0), 1);
                t.due("lay(" + k + ", 0, 0), no CELLS", x.lay(k, 0, 0), -12);
                t.due("read: it is something, of this lane", x.read(k, lane, 0, 1), 0);
                t.due("torn()", x.torn(), INDEX);
                t.due("read: not of another", x.read(k, (lane + 1) % 3, 0, 1), 0);
                t.due("torn()", x.torn(), CAST);
                t.due("sheet(" + k + ", " + lane + ", 40)", x.sheet(k, lane, 40), 1);
                t.due("read of CELLS 0", x.read(k, lane, 0, 20), 20);
                t.due("TODAY: 0 is not, 3 as it was", x.rule(5), 8);
                t.due("lay(" + k + ", 39, 1)", x.lay(k, 39, 1), 1);
                t.due("lay(" + k + ", 40, 1)", x.lay(k, 40, 1), -12);
                t.due("read of the last two CELLS", x.read(k, lane, 38, 1), 1);
                t.due("TODAY: 0 is", x.rule(5), 9);
                t.due("sheet(" + k + ", " + lane + ", 40) again", x.sheet(k, lane, 40), 1);
                t.due("read of CELLS 0 again", x.read(k, lane, 38, 1), 1);
                t.due("TODAY: 0 is not", x.rule(5), 8);
            }
        }
    }

    // ---- promise 41

    private static void lay() {
        t.bad("lay(#, 0, 1)", Twins::rich, (y, i) -> y.lay(i, 0, 1), -1, 4, MIN, MAX);
        t.bad("lay(#, -1, 1), BAD ahead of INDEX", Twins::rich, (y, i) -> y.lay(i, -1, 1), -1, 4);
        for (int i : new int[] {-1, 0, 1, 40, MIN, MAX}) {
            t.same("lay(0, " + i + ", 1), nothing", Twins::rich, y -> y.lay(0, i, 1), -10 - NULL);
            t.same("lay(3, " + i + ", 1), no CELLS", Twins::rich, y -> y.lay(3, i, 1), -10 - INDEX);
        }
        for (int i : new int[] {-1, 6, 7, 40, MIN, MAX}) {
            t.same("lay(1, " + i + ", 1)", Twins::rich, y -> y.lay(1, i, 1), -10 - INDEX);
        }
        t.same("lay(1, 0, 0), as it is", Twins::rich, y -> y.lay(1, 0, 0), 1);
        t.same("lay(1, 5, 5), as it is", Twins::rich, y -> y.lay(1, 5, 5), 1);
        t.same("lay(1, 5, 256 + 5), as it is", Twins::rich, y -> y.lay(1, 5, 256 + 5), 1);
    }

    /** Whether v on a lane is 1: then the NOTE 0 comes. */
    private static void cell(int lane, int v, boolean isOne, boolean isZero) {
        YesterStreet x = new YesterStreet();
        x.sheet(0, lane, 2);
        t.due("lay of " + v + " on lane " + lane, x.lay(0, 1, v), 1);
        t.due("read of " + v + " on lane " + lane, x.read(0, lane, 0, 1), isOne || isZero ? 1 : -20);
        t.due("TODAY by " + v + " on lane " + lane, x.rule(5), isOne ? 1 : 0);
        // as a NOTE of three, or none
        x.lay(0, 0, v);
        x.lay(0, 1, 0);
        t.due("read of NOTE " + v + " on lane " + lane, x.read(0, lane, 0, 1), isOne || isZero ? 1 : -20);
    }

    private static void lowestBits() {
        int[] wraps = {1 << 8, 1 << 16};
        for (int lane = 0; lane < 2; lane++) {
            int w = wraps[lane];
            for (int more : new int[] {0, w, -w, 2 * w, -5 * w, MIN}) {
                cell(lane, more, false, true);
                cell(lane, more + 1, true, false);
                cell(lane, more - 1, false, false);
                cell(lane, more + w / 2, false, false);
                cell(lane, more + w / 2 - 1, false, false);
                cell(lane, more + w / 2 + 1, false, false);
            }
            cell(lane, MAX, false, false);
        }
        cell(1, 256, false, false);
        cell(1, 257, false, false);
        cell(2, 0, false, true);
        cell(2, 1, true, false);
        for (int v : new int[] {-1, 256, 257, 65536, 65537, MIN, MIN + 1, MAX}) cell(2, v, false, false);
    }

    // ---- promise 42

    private static void readBad() {
        t.bad("read(#, 0, 0, 1)", Twins::rich, (y, i) -> y.read(i, 0, 0, 1), -1, 4, MIN, MAX);
        t.bad("read(1, #, 0, 1)", Twins::rich, (y, i) -> y.read(1, i, 0, 1), -1, 3, MIN, MAX);
        t.bad("read(1, 0, 0, #)", Twins::rich, (y, i) -> y.read(1, 0, 0, i), -1, 21, MIN, MAX);
        t.bad("read(0, 0, 0, #) of nothing", Twins::rich, (y, i) -> y.read(0, 0, 0, i), -1, 21);
        t.bad("read(1, 2, -1, #), another lane", Twins::rich, (y, i) -> y.read(1, 2, -1, i), -1, 21);
        t.bad("read(#, 3, 0, 1)", Twins::rich, (y, i) -> y.read(i, 3, 0, 1), 0, 1, 4);
    }

    /** 40 CELLS of a lane on SHEET 0: NOTES 0 1 2 0 1 2 on, each is. */
    private static YesterStreet forty(int lane) {
        YesterStreet x = new YesterStreet();
        x.sheet(0, lane, 40);
        for (int i = 0; i < 40; i++) x.lay(0, i, i % 2 == 1 ? 1 : i / 2 % 3);
        return x;
    }

    private static void reads(String name, YesterStreet x, int lane, int f, int n, int came, int torn, int today) {
        t.due(name, x.read(0, lane, f, n), came);
        t.due(name + ": torn()", x.torn(), torn);
        t.due(name + ": TODAY", x.rule(5), today);
    }

    private static void readFaults() {
        for (int lane = 0; lane < 3; lane++) {
            YesterStreet x = forty(lane);
            reads("read of none", x, lane, 0, 0, 0, 0, 0);
            for (int f : new int[] {-1, -2, -39, -40, -41, 39, 40, 41, MIN, MIN + 1, MAX - 1, MAX}) {
                reads("read at CELL " + f, x, lane, f, 1, 0, INDEX, 0);
                reads("read of 20 at CELL " + f, x, lane, f, 20, 0, INDEX, 0);
                reads("read of none at CELL " + f, x, lane, f, 0, 0, 0, 0);
            }
            reads("read of another lane", x, (lane + 1) % 3, 0, 1, 0, CAST, 0);
            reads("read of another lane, no such CELL", x, (lane + 2) % 3, 40, 20, 0, CAST, 0);
            reads("read of one", x, lane, 0, 1, 1, 0, 1);
            reads("read of the last two CELLS", x, lane, 38, 1, 1, 0, 3);
            x.write(1, false);
            reads("read past the last CELL", x, lane, 38, 2, 1, INDEX, 3);
            x.write(0, false);
            x.write(1, false);
            reads("read of all", x, lane, 0, 20, 20, 0, 7);
            // from CELL 1 on 1 and the next NOTE: 1 1, then 1 2, which is neither 1 nor 0
            reads("read beside them", x, lane, 1, 1, 1, 0, 7);
            x = forty(lane);
            reads("read of all but the first, and past them", x, lane, 2, 20, 19, INDEX, 7);
            x = new YesterStreet();
            reads("read of nothing", x, lane, 0, 1, 0, NULL, 0);
            reads("read of nothing, no such CELL", x, lane, -1, 20, 0, NULL, 0);
            x.sheet(0, lane, 0);
            reads("read without CELLS", x, lane, 0, 1, 0, INDEX, 0);
            x.sheet(0, lane, 1);
            reads("read of one CELL", x, lane, 0, 1, 0, INDEX, 0);
            x.write(0, true);
            x.sheet(0, lane, 2);
            reads("read of two CELLS", x, lane, 0, 2, 1, INDEX, 0);
            x.write(0, true);
            x.sheet(0, lane, 3);
            reads("read of three CELLS", x, lane, 0, 2, 1, INDEX, 0);
        }
    }

    private static void readRefused() {
        for (int at = 0; at < 20; at++) {
            int i = at;
            t.same("read, the " + i + ". neither 1 nor 0", () -> {
                YesterStreet x = forty(2);
                x.lay(0, 2 * i + 1, 2);
                return x;
            }, x -> x.read(0, 2, 0, 20), -20 - i);
            t.same("read, the " + i + ". no NOTE", () -> {
                YesterStreet x = forty(1);
                x.lay(0, 2 * i, 3);
                return x;
            }, x -> x.read(0, 1, 0, 20), -20 - i);
        }
        t.same("read, the last is -1", () -> {
            YesterStreet x = forty(0);
            x.lay(0, 39, 255);
            return x;
        }, x -> x.read(0, 0, 0, 20), -39);
        t.same("read, a STOPPED one is", () -> {
            YesterStreet x = forty(0);
            x.stop(2, true);
            return x;
        }, x -> x.read(0, 0, 0, 20), -22);
        YesterStreet x = forty(0);
        x.write(2, true);
        x.stop(2, true);
        x.lay(0, 5, 0);
        reads("read, a STOPPED one is not", x, 0, 0, 3, 3, 0, 3);
        x.lay(0, 5, 1);
        reads("read up to a STOPPED one", x, 0, 0, 2, 2, 0, 3);
        t.due("read with it", x.read(0, 0, 0, 3), -22);
        t.due("read from it on", x.read(0, 0, 4, 1), -20);
        x = t.told("street6 1;");
        x.sheet(0, 0, 2);
        x.lay(0, 1, 1);
        for (int n = 0; n < 6; n++) {
            x.lay(0, 0, n);
            reads("read of NOTE " + n, x, 0, 0, 1, 1, 0, (2 << n) - 1);
        }
        for (int n : new int[] {6, 127, 128, 255}) {
            x.lay(0, 0, n);
            t.due("read of NOTE " + n, x.read(0, 0, 0, 1), -20);
        }
    }

    private static void readOrder() {
        // one behind another: what comes later stands
        YesterStreet x = new YesterStreet();
        x.sheet(0, 1, 8);
        int[] cells = {0, 1, 0, 0, 1, 0, 1, 1};
        for (int i = 0; i < 8; i++) x.lay(0, i, cells[i]);
        reads("read, later ones stand", x, 1, 0, 4, 4, 0, 2);
        x.write(1, false);
        reads("read of three", x, 1, 0, 3, 3, 0, 0);
        // what is met first: a refused one ahead of the end, the end ahead of one that is not whole
        x.lay(0, 7, 9);
        t.due("read: refused ahead of the machine's FAULT", x.read(0, 1, 0, 5), -23);
        t.due("torn() of the one before", x.torn(), 0);
        reads("read: the last, not whole, is not looked at", x, 1, 1, 1, 1, 0, 0);
        x.sheet(0, 1, 3);
        x.lay(0, 1, 1);
        x.lay(0, 2, 77);
        reads("read: what is not whole is not refused", x, 1, 0, 2, 1, INDEX, 1);
    }

    // ---- promise 43

    private static void torn() {
        YesterStreet x = new YesterStreet();
        t.due("torn() ahead of all", x.torn(), 0);
        x.lay(0, 0, 0);
        x.sheet(0, 0, -1);
        t.due("torn() is of read() alone", x.torn(), 0);
        x.sheet(1, 0, 3);
        x.lay(1, 2, 2);
        int[][] calls = {{0, 0, 0, 1, 0, NULL}, {1, 1, 0, 1, 0, CAST}, {1, 0, 3, 1, 0, INDEX}, {1, 0, 0, 1, 1, 0},
            {0, 2, 5, 20, 0, NULL}, {1, 0, 1, 1, -20, NULL}, {4, 0, 0, 1, BAD, NULL}, {1, 3, 0, 1, BAD, NULL},
            {1, 0, 0, 21, BAD, NULL}, {1, 0, 0, 20, 1, INDEX}, {1, 0, 0, -1, BAD, INDEX}, {1, 0, 0, 0, 0, 0}};
        for (int[] c : calls) {
            String name = "read(" + c[0] + ", " + c[1] + ", " + c[2] + ", " + c[3] + ")";
            t.due(name, x.read(c[0], c[1], c[2], c[3]), c[4]);
            t.due("torn() behind " + name, x.torn(), c[5]);
            t.due("torn() again", x.torn(), c[5]);
        }
        t.same("torn()", Twins::rich, YesterStreet::torn, INDEX);
    }

    // ---- promise 44

    private static void count() {
        t.bad("count(#)", Twins::rich, (y, i) -> y.count(i), -1, 6, MIN, MAX);
        int[] rich = {2, 1, 24, NONE, 2, 1}, bare = {0, 0, 0, NONE, 0, 0};
        for (int i = 0; i < 6; i++) {
            int what = i;
            t.same("count(" + i + ")", Twins::rich, y -> y.count(what), rich[i]);
            t.same("count(" + i + ") of a new one", YesterStreet::new, y -> y.count(what), bare[i]);
        }
        YesterStreet x = t.told("street6 1;rule0 0;rule0 0;rule0 0;rule0 0;rule0 0;rule0 0;rule0 0;rule0 0;");
        for (int n = 0; n < 8; n++) x.see(0, true);
        for (int n = 0; n < 6; n++) x.write(n, true);
        x.keep(0);
        x.keep(1);
        for (int i = 0; i < 160; i++) x.feed(' ');
        x.sheet(0, 0, 40);
        int[] full = {8, 2, 160, 40, 6, 8};
        for (int i = 0; i < 6; i++) t.due("count(" + i + "), full", x.count(i), full[i]);
        x.see(0, true);
        x.feed(' ');
        x.sheet(0, 0, 41);
        for (int i = 0; i < 6; i++) t.due("count(" + i + "), more than full", x.count(i), full[i]);
        t.due("sheet(0, 2, 0)", x.sheet(0, 2, 0), 1);
        t.due("count(3): no CELLS is not nothing", x.count(3), 0);
        x.home(0, true);
        t.due("count(5), he is at HOME", x.count(5), 0);
    }
}
