/** The edges of promises 30 to 37: odds, which day it was, by a seed. */
public final class EdgeOddsTest {
    private static final int BAD = Twins.BAD, FULL = Twins.FULL, NONE = Twins.NONE;
    private static final int MIN = Twins.MIN, MAX = Twins.MAX;
    private static final Twins t = new Twins("EdgeOddsTest");
    private static final String NEVER = "rule0 0not0;";
    /** Each NOTE comes by itself: all 64 sets AGREE. */
    private static final String EVERY = "street6 1;rule0 0 0;rule0 1 1;rule0 2 2;rule0 3 3;rule0 4 4;rule0 5 5;";

    public static void main(String[] args) {
        refusedOdds();
        odds();
        none();
        mean();
        see();
        forget();
        fits();
        ask();
        drift();
        driftSeeds();
        t.end();
    }

    private static YesterStreet never() {
        return t.told(NEVER);
    }

    private static void fraction(String what, long above, long below, long wantAbove, long wantBelow) {
        t.due(what + ", above", above, wantAbove);
        t.due(what + ", below", below, wantBelow);
    }

    private static String eightTimes(String line) {
        return line.repeat(8);
    }

    // ---- promises 30, 31, 32

    private static void refusedOdds() {
        t.bad("odds(#, 0, 0)", Twins::rich, (y, i) -> y.odds(i, 0, 0), -1, 11, MIN, MAX);
        t.bad("odds(5, #, 0)", Twins::rich, (y, i) -> y.odds(5, i, 0), -1, 4, 6, MIN, MAX);
        t.bad("odds(5, 0, #)", Twins::rich, (y, i) -> y.odds(5, 0, i), -1, 2, MIN, MAX);
        t.bad("odds(5, #, 1) of six NOTES", () -> t.told(EVERY), (y, i) -> y.odds(5, i, 1), -1, 6);
        t.bad("none(#, 0)", Twins::rich, (y, i) -> y.none(i, 0), -1, 11, MIN, MAX);
        t.bad("none(5, #)", Twins::rich, (y, i) -> y.none(5, i), -1, 2, MIN, MAX);
        t.bad("mean(#, 0)", Twins::rich, (y, i) -> y.mean(i, 0), -1, 11, MIN, MAX);
        t.bad("mean(5, #)", Twins::rich, (y, i) -> y.mean(5, i), -1, 2, MIN, MAX);
        t.same("odds(5, 0, 0)", Twins::rich, y -> y.odds(5, 0, 0), 1);
        t.same("odds(5, 0, 1)", Twins::rich, y -> y.odds(5, 0, 1), 2);
        t.same("odds(5, 3, 0), STOPPED", Twins::rich, y -> y.odds(5, 3, 0), 0);
        t.same("odds(5, 3, 1), STOPPED", Twins::rich, y -> y.odds(5, 3, 1), 1);
        t.same("none(5, 0)", Twins::rich, y -> y.none(5, 0), 0);
        t.same("none(5, 1)", Twins::rich, y -> y.none(5, 1), 1);
        t.same("mean(5, 0)", Twins::rich, y -> y.mean(5, 0), 5);
        t.same("mean(5, 1)", Twins::rich, y -> y.mean(5, 1), 4);
    }

    private static void odds() {
        YesterStreet x = t.told("rule0 0;");
        long[][] one = {{1, 1}, {9, 10}, {4, 5}, {7, 10}, {3, 5}, {1, 2}, {2, 5}, {3, 10}, {1, 5}, {1, 10}, {0, 1}};
        for (int v = 0; v <= 10; v++) {
            fraction("odds(" + v + ", 0) of one RULE", x.odds(v, 0, 0), x.odds(v, 0, 1), one[v][0], one[v][1]);
            fraction("odds(" + v + ", 1), by no RULE", x.odds(v, 1, 0), x.odds(v, 1, 1), 0, 1);
        }
        x = t.told(eightTimes("rule0 0;"));
        fraction("odds(0, 0) of eight", x.odds(0, 0, 0), x.odds(0, 0, 1), 1, 1);
        fraction("odds(5, 0) of eight", x.odds(5, 0, 0), x.odds(5, 0, 1), 255, 256);
        fraction("odds(9, 0) of eight", x.odds(9, 0, 0), x.odds(9, 0, 1), 56953279, 100000000);
        fraction("odds(10, 0) of eight", x.odds(10, 0, 0), x.odds(10, 0, 1), 0, 1);
        x = t.told("street6 1;rule0 0 1;rule0 1 2;rule0 2 3;rule0 3 4;rule0 4 5;rule0 5;");
        fraction("odds(9, 0), one behind another", x.odds(9, 0, 0), x.odds(9, 0, 1), 1, 1000000);
        fraction("odds(9, 5), the first of them", x.odds(9, 5, 0), x.odds(9, 5, 1), 1, 10);
        fraction("odds(1, 0), one behind another", x.odds(1, 0, 0), x.odds(1, 0, 1), 531441, 1000000);
        x = new YesterStreet();
        fraction("odds(5, 2) without RULES", x.odds(5, 2, 0), x.odds(5, 2, 1), 0, 1);
        // by failing alone: 0 is, if the second stands and the first, by which none AGREES, fails
        x = t.told("rule0 1not1;rule0 0;");
        fraction("odds(0, 0), nothing fails", x.odds(0, 0, 0), x.odds(0, 0, 1), 0, 1);
        fraction("odds(3, 0), the first fails", x.odds(3, 0, 0), x.odds(3, 0, 1), 21, 100);
        x.home(0, true);
        fraction("odds(3, 0), he is at HOME", x.odds(3, 0, 0), x.odds(3, 0, 1), 0, 1);
    }

    private static void none() {
        YesterStreet x = never();
        long[][] one = {{1, 1}, {9, 10}, {4, 5}, {7, 10}, {3, 5}, {1, 2}, {2, 5}, {3, 10}, {1, 5}, {1, 10}, {0, 1}};
        for (int v = 0; v <= 10; v++) {
            fraction("none(" + v + ") of one RULE", x.none(v, 0), x.none(v, 1), one[v][0], one[v][1]);
        }
        x = t.told(eightTimes(NEVER));
        fraction("none(0) of eight", x.none(0, 0), x.none(0, 1), 1, 1);
        fraction("none(1) of eight", x.none(1, 0), x.none(1, 1), 99999999, 100000000);
        fraction("none(9) of eight", x.none(9, 0), x.none(9, 1), 56953279, 100000000);
        fraction("none(10) of eight", x.none(10, 0), x.none(10, 1), 0, 1);
        x = new YesterStreet();
        fraction("none(0) without RULES", x.none(0, 0), x.none(0, 1), 0, 1);
        fraction("none(10) without RULES", x.none(10, 0), x.none(10, 1), 0, 1);
    }

    private static void mean() {
        YesterStreet x = t.told(eightTimes(NEVER));
        fraction("mean(0) of eight", x.mean(0, 0), x.mean(0, 1), 0, 1);
        fraction("mean(1) of eight", x.mean(1, 0), x.mean(1, 1), 1, 100000000);
        fraction("mean(9) of eight", x.mean(9, 0), x.mean(9, 1), 43046721, 100000000);
        fraction("mean(10) of eight", x.mean(10, 0), x.mean(10, 1), 1, 1);
        x = t.told(EVERY);
        fraction("mean(0), the most", x.mean(0, 0), x.mean(0, 1), 64, 1);
        // 1 and a half for each of six
        fraction("mean(5) of six", x.mean(5, 0), x.mean(5, 1), 729, 64);
        fraction("mean(10) of six", x.mean(10, 0), x.mean(10, 1), 1, 1);
        x = new YesterStreet();
        fraction("mean(0) without RULES", x.mean(0, 0), x.mean(0, 1), 1, 1);
        fraction("mean(10) without RULES", x.mean(10, 0), x.mean(10, 1), 1, 1);
    }

    // ---- promises 33, 34

    private static YesterStreet eightSeen() {
        YesterStreet x = Twins.rich();
        for (int i = 3; i <= 8; i++) x.see(i % 4, i % 2 == 0);
        return x;
    }

    private static void see() {
        for (boolean is : new boolean[] {false, true}) {
            t.bad("see(#, " + is + ")", Twins::rich, (y, i) -> y.see(i, is), -1, 4, 32, MIN, MAX);
            t.bad("see(#, " + is + "), BAD ahead of FULL", EdgeOddsTest::eightSeen, (y, i) -> y.see(i, is), -1, 4, MIN, MAX);
            t.same("see(3, " + is + "), the 9.", EdgeOddsTest::eightSeen, y -> y.see(3, is), FULL);
        }
        YesterStreet x = t.told(EVERY);
        for (int i = 1; i <= 8; i++) t.due("see, the " + i + ".", x.see(5, true), i);
        t.due("see, the 9.", x.see(5, true), FULL);
        t.due("fits(0): one thing SEEN eight times", x.fits(0), 32);
        t.due("forget(7)", x.forget(7), 8);
        t.due("see, the 8. again", x.see(5, false), 8);
        t.due("fits(0): it was and was not", x.fits(0), 0);
        x = t.told(EVERY);
        for (int n = 0; n < 6; n++) {
            t.due("see(" + n + ")", x.see(n, n % 2 == 0), n + 1);
            t.due("fits(0)", x.fits(0), 32 >> n);
        }
        t.due("fits(1)", x.fits(1), 21);
        t.due("a STOPPED NOTE may be SEEN", t.told("stop 0;").see(0, true), 1);
    }

    private static void forget() {
        t.bad("forget(#)", Twins::rich, (y, i) -> y.forget(i), -1, 3, 8, 9, MIN, MAX);
        t.bad("forget(#) of eight", EdgeOddsTest::eightSeen, (y, i) -> y.forget(i), -1, 9);
        t.bad("forget(#) of none", YesterStreet::new, (y, i) -> y.forget(i), -1, 1);
        t.same("forget of none", Twins::rich, y -> y.forget(2), 2);
        t.same("forget(8) of eight", EdgeOddsTest::eightSeen, y -> y.forget(8), 8);
        t.same("forget(0), nothing SEEN", YesterStreet::new, y -> y.forget(0), 0);
        YesterStreet x = t.told(EVERY);
        for (int n = 0; n < 6; n++) x.see(n, true);
        for (int n = 5; n >= 0; n--) {
            t.due("forget(" + n + ")", x.forget(n), n + 1);
            t.due("fits(0)", x.fits(0), 64 >> n);
            t.due("forget(" + (n + 1) + ") behind it", x.forget(n + 1), BAD);
        }
    }

    // ---- promises 35, 36

    private static void fits() {
        t.bad("fits(#)", Twins::rich, (y, i) -> y.fits(i), -1, 4, MIN, MAX);
        t.bad("fits(#), BAD ahead of NONE", EdgeOddsTest::never, (y, i) -> y.fits(i), -1, 4, MIN, MAX);
        int[] none = {0, NONE, NONE, NONE}, bare = {1, 0, 0, 7}, every = {64, 0, 0, 0};
        for (int i = 0; i < 4; i++) {
            int what = i;
            t.same("fits(" + i + "), nothing FITS", Twins::rich, y -> y.fits(what), none[i]);
            t.same("fits(" + i + "), none AGREES", EdgeOddsTest::never, y -> y.fits(what), none[i]);
            t.same("fits(" + i + "), nothing SEEN", YesterStreet::new, y -> y.fits(what), bare[i]);
            t.same("fits(" + i + ") of all", () -> t.told(EVERY), y -> y.fits(what), every[i]);
        }
        YesterStreet x = t.told(EVERY);
        x.see(5, true);
        x.see(0, false);
        int[] some = {16, 32, 32, 1};
        for (int i = 0; i < 4; i++) t.due("fits(" + i + "), two SEEN", x.fits(i), some[i]);
        for (int n = 1; n < 5; n++) x.see(n, true);
        int[] one = {1, 62, 62, 1};
        for (int i = 0; i < 4; i++) t.due("fits(" + i + "), all SEEN", x.fits(i), one[i]);
        x.stop(1, true);
        t.due("fits(0): SEEN stays, the street changes", x.fits(0), 0);
        x.stop(1, false);
        t.due("fits(0): and back", x.fits(0), 1);
    }

    private static void ask() {
        t.bad("ask(#)", Twins::rich, (y, i) -> y.ask(i), -1, 2, MIN, MAX);
        t.bad("ask(#), BAD ahead of NONE", EdgeOddsTest::never, (y, i) -> y.ask(i), -1, 2, MIN, MAX);
        for (int i = 0; i < 2; i++) {
            int what = i;
            t.same("ask(" + i + "), nothing FITS", Twins::rich, y -> y.ask(what), NONE);
            t.same("ask(" + i + "), none AGREES", EdgeOddsTest::never, y -> y.ask(what), NONE);
            t.same("ask(" + i + "), one FITS", YesterStreet::new, y -> y.ask(what), NONE);
        }
        YesterStreet x = t.told(EVERY);
        for (int n = 0; n < 6; n++) {
            t.due("ask(0): the first of several", x.ask(0), n);
            t.due("ask(1)", x.ask(1), 32 >> n);
            x.see(n, true);
        }
        t.due("ask(0), all SEEN", x.ask(0), NONE);
        t.due("ask(1), all SEEN", x.ask(1), NONE);
        // {} {0 1 2} {1 2} {2}: 1 halves them, 0 and 2 do not
        x = t.told("rule0 2 2;rule0 1 1 2;rule0 0 0 1 2;");
        t.due("fits(0)", x.fits(0), 4);
        t.due("ask(0): not the first, the best", x.ask(0), 1);
        t.due("ask(1): not the first, the best", x.ask(1), 2);
        // {} {0 1}: either tells, the first is asked for
        x = t.told("rule0 0 1;rule0 1 0;");
        t.due("ask(0) of two", x.ask(0), 0);
        t.due("ask(1) of two", x.ask(1), 1);
        // {5} {4 5}
        x = t.told("street6 1;rule0 5;rule0 4 4;");
        t.due("ask(0): the only one that tells", x.ask(0), 4);
        t.due("ask(1): the only one that tells", x.ask(1), 1);
    }

    // ---- promise 37

    private static void drift() {
        t.bad("drift(1, #, 0)", Twins::rich, (y, i) -> y.drift(1, i, 0), -1, 0, 61, MIN, MAX);
        t.bad("drift(1, 1, #)", Twins::rich, (y, i) -> y.drift(1, 1, i), -1, 2, MIN, MAX);
        t.bad("drift(1, #, 1)", YesterStreet::new, (y, i) -> y.drift(1, i, 1), -1, 0, 61, MIN, MAX);
        // 0 and 3 of TODAY; the seed 0 asks for NOTE 0: {3} is left, it BRINGS {0 1}, that {}
        t.same("drift(0, 1, 0)", Twins::rich, y -> y.drift(0, 1, 0), 3);
        t.same("drift(0, 1, 1)", Twins::rich, y -> y.drift(0, 1, 1), 0);
        t.same("drift(0, 60, 0) without RULES", YesterStreet::new, y -> y.drift(0, 60, 0), 0);
        t.same("drift(0, 60, 1) without RULES", YesterStreet::new, y -> y.drift(0, 60, 1), 60);
        YesterStreet x = t.told("street1 1;" + NEVER);
        for (int n = 1; n <= 60; n++) {
            t.due("drift(7, " + n + ", 0): what comes is put away", x.drift(7, n, 0), 0);
            t.due("drift(7, " + n + ", 1)", x.drift(7, n, 1), 0);
        }
        x = t.told("street1 1;rule0 0 0;");
        for (int n = 1; n <= 60; n++) {
            t.due("drift(7, " + n + ", 0): by turns", x.drift(7, n, 0), n % 2);
            t.due("drift(7, " + n + ", 1): all AGREE", x.drift(7, n, 1), n);
        }
        x.stop(0, true);
        t.due("drift(7, 1, 0): STOPPED or not", x.drift(7, 1, 0), 0);
        for (int i = 0; i < 16; i++) x.day(60);
        x.day(39);
        t.due("drift(7, 60, 1) on the last DAY", x.drift(7, 60, 1), 60);
        t.due("DAY stays", x.rule(6), 999);
        // the STOPPED one is put to TODAY all the same, and another is written by it
        x = t.told("street2 1;stop0;rule0 1 0;");
        t.due("drift(0, 1, 0): a STOPPED NOTE is put", x.drift(0, 1, 0), 2);
        x = t.told("street2 1;stop0;today0;rule0 1not0;");
        t.due("drift(0, 1, 0): a STOPPED NOTE is put away", x.drift(0, 1, 0), 2);
    }

    private static void driftSeeds() {
        YesterStreet x = t.told(EVERY);
        // the NOTES that six steps of each seed ask for, worked out apart from the class
        int[] seeds = {0, 1, -1, MAX, MIN, 1 << 30};
        int[][] asked = {{0, 0, 4, 1, 0, 1}, {2, 4, 3, 1, 1, 5}, {5, 5, 4, 0, 1, 2}, {5, 5, 4, 0, 1, 2},
            {0, 0, 4, 1, 0, 1}, {4, 2, 2, 3, 4, 3}};
        for (int i = 0; i < seeds.length; i++) {
            int set = 0;
            for (int n = 1; n <= 6; n++) {
                set ^= 1 << asked[i][n - 1];
                t.due("drift(" + seeds[i] + ", " + n + ", 0)", x.drift(seeds[i], n, 0), set);
            }
        }
        for (int seed : new int[] {0, 1, 5, 77, 65535, 65536, 1 << 30, MAX}) {
            for (int n = 1; n <= 60; n += 7) {
                // bit 31 is not asked for
                t.due("drift(" + seed + ", " + n + ", 0) and with bit 31", x.drift(seed ^ MIN, n, 0), x.drift(seed, n, 0));
            }
        }
    }
}
