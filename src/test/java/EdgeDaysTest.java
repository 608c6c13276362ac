/** The edges of promises 16 to 29: days, where it begins, what is to be done. */
public final class EdgeDaysTest {
    private static final int BAD = Twins.BAD, STATE = Twins.STATE, FULL = Twins.FULL, NONE = Twins.NONE;
    private static final int MIN = Twins.MIN, MAX = Twins.MAX;
    private static final Twins t = new Twins("EdgeDaysTest");
    /** No set AGREES. */
    private static final String NEVER = "rule 0 0 not 0;";
    /** Each NOTE comes by itself: all 64 sets AGREE. */
    private static final String EVERY = "street6 1;rule0 0 0;rule0 1 1;rule0 2 2;rule0 3 3;rule0 4 4;rule0 5 5;";
    /** NOTES go on by one, 0 is there if 0 or 5 was, not both: a round of all 63 sets but the empty one. */
    private static final String LONG_ROUND =
        "street6 1;rule0 1 0;rule0 2 1;rule0 3 2;rule0 4 3;rule0 5 4;rule0 0 5not0;rule0 0 0not5;";

    public static void main(String[] args) {
        brings();
        day();
        round();
        days();
        first();
        less();
        begins();
        pure();
        wrote();
        could();
        fewest();
        police();
        comes();
        richest();
        t.end();
    }

    private static YesterStreet never() {
        return t.told(NEVER);
    }

    private static YesterStreet notes(int n) {
        return t.told("street " + n + " 1;");
    }

    // ---- promises 16, 17, 18

    private static void brings() {
        t.bad("brings(#)", Twins::rich, (y, i) -> y.brings(i), -1, 16, 64, MIN, MAX);
        t.bad("brings(#) of one NOTE", () -> notes(1), (y, i) -> y.brings(i), -1, 2);
        t.bad("brings(#) of six NOTES", () -> notes(6), (y, i) -> y.brings(i), -1, 64);
        t.same("brings(0)", Twins::rich, y -> y.brings(0), 3);
        t.same("brings(15)", Twins::rich, y -> y.brings(15), 4);
        YesterStreet x = t.told("street 1 1;" + NEVER);
        t.due("brings(0) of one NOTE", x.brings(0), 1);
        t.due("brings(1) of one NOTE", x.brings(1), 0);
        x = t.told(EVERY);
        for (int s = 0; s < 64; s++) t.due("brings(" + s + "), each by itself", x.brings(s), s);
        t.due("brings(64), each by itself", x.brings(64), BAD);
        for (int n = 0; n < 6; n++) x.stop(n, true);
        t.due("brings(63), all STOPPED", x.brings(63), 0);
    }

    /** A street at DAY 960 where 0 comes and goes. */
    private static YesterStreet late() {
        YesterStreet x = t.told(NEVER);
        for (int i = 0; i < 16; i++) x.day(60);
        return x;
    }

    private static void day() {
        t.bad("day(#)", Twins::rich, (y, i) -> y.day(i), -1, 61, 1000, MIN, MAX);
        t.bad("day(#), BAD ahead of FULL", EdgeDaysTest::late, (y, i) -> y.day(i), -1, 61, MIN, MAX);
        t.same("day(0)", Twins::rich, y -> y.day(0), 9);
        t.same("day(40) to 1000", EdgeDaysTest::late, y -> y.day(40), FULL);
        t.same("day(60) to 1020", EdgeDaysTest::late, y -> y.day(60), FULL);
        YesterStreet x = late();
        t.due("DAY", x.rule(6), 960);
        t.due("day(39) to 999", x.day(39), 1);
        t.due("DAY", x.rule(6), 999);
        t.due("day(1) to 1000", x.day(1), FULL);
        t.due("day(60) to 1059", x.day(60), FULL);
        t.due("day(0) on the last", x.day(0), 1);
        t.due("DAY", x.rule(6), 999);
        t.due("TODAY", x.rule(5), 1);
        x = t.told(NEVER);
        for (int i = 0; i < 15; i++) x.day(60);
        x.day(39);
        t.due("day(60) to 999", x.day(60), 1);
        x = t.told(NEVER);
        t.due("day(1)", x.day(1), 1);
        t.due("day(60)", x.day(60), 1);
        t.due("DAY", x.rule(6), 61);
        x = t.told("stop 0;today 0;rule 0 0 0;");
        t.due("day(0): a STOPPED NOTE of TODAY stays", x.day(0), 1);
        t.due("day(1): it goes", x.day(1), 0);
    }

    private static void round() {
        t.bad("round(#, 0)", Twins::rich, (y, i) -> y.round(i, 0), -1, 16, 64, MIN, MAX);
        t.bad("round(0, #)", Twins::rich, (y, i) -> y.round(0, i), -1, 2, MIN, MAX);
        t.bad("round(#, 1) of six NOTES", () -> notes(6), (y, i) -> y.round(i, 1), -1, 64);
        t.same("round(9, 0)", Twins::rich, y -> y.round(9, 0), 1);
        t.same("round(9, 1)", Twins::rich, y -> y.round(9, 1), 1);
        YesterStreet x = t.told(LONG_ROUND);
        for (int s = 0; s < 64; s++) {
            t.due("round(" + s + ", 0), the long one", x.round(s, 0), 0);
            t.due("round(" + s + ", 1), the long one", x.round(s, 1), s == 0 ? 1 : 63);
        }
        x = t.told(LONG_ROUND + "rule0 0not0 1 2 3 4 5;");
        t.due("round(0, 0): into it from the empty set", x.round(0, 0), 1);
        t.due("round(0, 1): all 64 sets come", x.round(0, 1), 63);
        x = t.told(LONG_ROUND + "rule0 0 0 1 2 3 4 5;");
        t.due("round(62, 0): the longest way", x.round(62, 0), 62);
        t.due("round(62, 1): to a set that stays", x.round(62, 1), 1);
        t.due("round(63, 0)", x.round(63, 0), 0);
        t.due("round(63, 1)", x.round(63, 1), 1);
        x = t.told("street 1 1;" + NEVER);
        t.due("round(1, 0) of one NOTE", x.round(1, 0), 0);
        t.due("round(1, 1) of one NOTE", x.round(1, 1), 2);
        t.due("round(2, 1) of one NOTE", x.round(2, 1), BAD);
        x = late();
        t.due("round(0, 1) late: no DAY is too late for it", x.round(0, 1), 2);
    }

    // ---- promises 19, 20, 21

    private static void days() {
        t.bad("days(#)", Twins::rich, (y, i) -> y.days(i), -1, 5, MIN, MAX);
        t.bad("days(#), BAD ahead of NONE", EdgeDaysTest::never, (y, i) -> y.days(i), -1, 5, MIN, MAX);
        int[] rich = {2, 1, 2, 0, 12};
        int[] every = {64, 0, 63, 0, 0};
        int[] none = {0, NONE, NONE, NONE, NONE};
        int[] bare = {1, 0, 0, 0, 7};
        for (int i = 0; i < 5; i++) {
            int what = i;
            t.same("days(" + i + ")", Twins::rich, y -> y.days(what), rich[i]);
            t.same("days(" + i + ") of all", () -> t.told(EVERY), y -> y.days(what), every[i]);
            t.same("days(" + i + ") of none", EdgeDaysTest::never, y -> y.days(what), none[i]);
            t.same("days(" + i + ") without RULES", YesterStreet::new, y -> y.days(what), bare[i]);
        }
        YesterStreet x = t.told("street6 1;rule0 0;rule0 1;rule0 2;rule0 3;rule0 4;rule0 5;");
        int[] last = {1, 63, 63, 63, 0};
        for (int i = 0; i < 5; i++) t.due("days(" + i + "), the greatest set alone", x.days(i), last[i]);
        x = t.told("street1 1;rule0 0 0;");
        int[] two = {2, 0, 1, 0, 0};
        for (int i = 0; i < 5; i++) t.due("days(" + i + ") of one NOTE", x.days(i), two[i]);
    }

    private static void first() {
        t.same("first() without RULES", YesterStreet::new, YesterStreet::first, NONE);
        t.same("first(), some AGREES by each", Twins::rich, YesterStreet::first, NONE);
        t.same("first() of one", EdgeDaysTest::never, YesterStreet::first, 1);
        YesterStreet x = t.told("rule0 1;rule0 1;rule0 1;rule0 1;rule0 1;rule0 1;rule0 1;" + NEVER);
        t.due("first(): by all eight", x.first(), 8);
        t.due("less()", x.less(), 1);
        x.cut(7);
        t.due("first(), the eighth cut", x.first(), NONE);
        x = t.told(NEVER + "rule0 0;");
        t.due("first(), though a later RULE mends it", x.first(), 1);
        t.due("days(0)", x.days(0), 1);
        t.due("less()", x.less(), 0);
        x.need(1, 1, true);
        t.due("first(), not mended", x.first(), 1);
        x.home(0, true);
        t.due("first(), he being at HOME", x.first(), NONE);
    }

    private static void less() {
        t.same("less() without RULES", YesterStreet::new, YesterStreet::less, 0);
        t.same("less(), none to be cut", Twins::rich, YesterStreet::less, 0);
        t.same("less() of one", EdgeDaysTest::never, YesterStreet::less, 1);
        YesterStreet x = t.told(NEVER + "rule0 1;rule0 1;rule0 1;rule0 1;rule0 1;rule0 1;rule0 1;");
        t.due("less(): all eight", x.less(), 8);
        t.due("first()", x.first(), 1);
        t.due("RULES stay", x.rule(2), 8);
        x = t.told(NEVER + "rule0 0;rule0 1 not 1;rule0 2;");
        t.due("less(): to the last that mends", x.less(), 2);
        t.due("first(): the first that breaks", x.first(), 1);
    }

    // ---- promises 22, 23, 24, 25

    private static void begins() {
        t.bad("begins(#)", Twins::rich, (y, i) -> y.begins(i), -1, 16, 64, MIN, MAX);
        t.bad("begins(#) of six NOTES", () -> notes(6), (y, i) -> y.begins(i), -1, 64);
        t.same("begins(0)", Twins::rich, y -> y.begins(0), 0);
        t.same("begins(9): 3 is STOPPED", Twins::rich, y -> y.begins(9), 1);
        YesterStreet x = t.told(EVERY);
        t.due("begins(63), each by itself", x.begins(63), 0);
        x = t.told("street6 1;rule0 5;rule0 4 5;rule0 3 4;rule0 2 3;rule0 1 2;rule0 0 1;");
        t.due("begins(63), the longest chain", x.begins(63), 63);
        t.due("begins(62)", x.begins(62), 62);
        t.due("begins(31), the first missing", x.begins(31), 0);
        t.due("begins(32)", x.begins(32), 32);
        t.due("begins(0)", x.begins(0), 0);
        x.stop(5, true);
        t.due("begins(63), the first STOPPED", x.begins(63), 0);
        x = t.told("street6 1;rule0 0 1;rule0 1 2;rule0 2 3;rule0 3 4;rule0 4 5;rule0 5;");
        t.due("begins(63), the longest chain, told from its end", x.begins(63), 63);
    }

    private static void pure() {
        t.bad("pure(#)", Twins::rich, (y, i) -> y.pure(i), -1, 2, MIN, MAX);
        t.bad("pure(#), BAD ahead of NONE", EdgeDaysTest::never, (y, i) -> y.pure(i), -1, 2, MIN, MAX);
        t.same("pure(0)", Twins::rich, y -> y.pure(0), 2);
        t.same("pure(1)", Twins::rich, y -> y.pure(1), 1);
        t.same("pure(0), none AGREES", EdgeDaysTest::never, y -> y.pure(0), 0);
        t.same("pure(1), none AGREES", EdgeDaysTest::never, y -> y.pure(1), NONE);
        t.same("pure(0) without RULES", YesterStreet::new, y -> y.pure(0), 1);
        t.same("pure(1) without RULES", YesterStreet::new, y -> y.pure(1), 0);
        YesterStreet x = t.told("street6 1;rule0 0;rule0 1;rule0 2;rule0 3;rule0 4;rule0 5;");
        t.due("pure(0), the greatest set alone", x.pure(0), 1);
        t.due("pure(1), the greatest set alone", x.pure(1), 63);
        x = t.told("rule0 0 0;rule0 1not0 1;");
        t.due("pure(0): a set AGREES, none is PURE", x.pure(0), 0);
        t.due("pure(1): a set AGREES, none is PURE", x.pure(1), NONE);
        t.due("days(1)", x.days(1), 1);
        x = t.told(EVERY);
        t.due("pure(0): all AGREE, {} alone is PURE", x.pure(0), 1);
        t.due("pure(1): all AGREE, {} alone is PURE", x.pure(1), 0);
        // three pairs, of each one or the other: 8 sets AGREE, all by nothing that is there
        x = t.told("street6 1;rule0 0not1;rule0 1not0;rule0 2not3;rule0 3not2;rule0 4not5;rule0 5not4;");
        t.due("pure(0), the most", x.pure(0), 8);
        t.due("pure(1), the most", x.pure(1), 1 + 4 + 16);
    }

    private static void wrote() {
        t.bad("wrote(#, 0)", Twins::rich, (y, i) -> y.wrote(i, 0), -1, 16, 64, MIN, MAX);
        t.bad("wrote(0, #)", Twins::rich, (y, i) -> y.wrote(0, i), -1, 4, MIN, MAX);
        t.bad("wrote(#, 5) of six NOTES", () -> notes(6), (y, i) -> y.wrote(i, 5), -1, 64);
        t.bad("wrote(63, #) of six NOTES", () -> notes(6), (y, i) -> y.wrote(63, i), -1, 6);
        t.same("wrote(0, 0)", Twins::rich, y -> y.wrote(0, 0), 1);
        t.same("wrote(15, 3)", Twins::rich, y -> y.wrote(15, 3), 0);
        YesterStreet x = t.told("street6 4;rule0 5;rule1 5 5;rule2 5not5;rule3 5 0 1 2 3 4 5;");
        t.due("wrote(0, 5)", x.wrote(0, 5), 5);
        t.due("wrote(32, 5)", x.wrote(32, 5), 3);
        t.due("wrote(63, 5)", x.wrote(63, 5), 11);
        t.due("wrote(63, 4)", x.wrote(63, 4), 0);
        x.stop(5, true);
        t.due("wrote(63, 5), STOPPED", x.wrote(63, 5), 11);
        x.home(3, true);
        t.due("wrote(63, 5), 3 at HOME", x.wrote(63, 5), 3);
        x.bar(2, 5, false);
        x.home(3, false);
        t.due("wrote(63, 5), all", x.wrote(63, 5), 15);
    }

    private static void could() {
        t.bad("could(#)", Twins::rich, (y, i) -> y.could(i), -1, 4, MIN, MAX);
        t.bad("could(#) of six NOTES", () -> notes(6), (y, i) -> y.could(i), -1, 6);
        t.same("could(0)", Twins::rich, y -> y.could(0), 1);
        t.same("could(1)", Twins::rich, y -> y.could(1), 2);
        t.same("could(0), none AGREES", EdgeDaysTest::never, y -> y.could(0), 0);
        t.same("could(0) without RULES", YesterStreet::new, y -> y.could(0), 0);
        YesterStreet x = t.told("street6 4;rule0 5;rule1 5 5;rule2 5 5;rule3 5;");
        t.due("could(5), all", x.could(5), 15);
        t.due("could(4)", x.could(4), 0);
        t.due("could(5), all AGREE", t.told(EVERY).could(5), 1);
        t.due("could(0) in the greatest set alone", t.told("street1 2;rule1 0;").could(0), 2);
        t.due("could(0) in the empty set alone", t.told("street1 2;stop0;rule1 0;").could(0), 2);
    }

    // ---- promises 26, 27

    private static void fewest() {
        for (boolean is : new boolean[] {false, true}) {
            t.bad("fewest(#, " + is + ", 0)", Twins::rich, (y, i) -> y.fewest(i, is, 0), -1, 4, MIN, MAX);
            t.bad("fewest(0, " + is + ", #)", Twins::rich, (y, i) -> y.fewest(0, is, i), -1, 2, MIN, MAX);
        }
        t.bad("fewest(0, true, #), BAD ahead of NONE", YesterStreet::new, (y, i) -> y.fewest(0, true, i), -1, 2);
        for (int i = 0; i < 2; i++) {
            int what = i;
            t.same("fewest(0, true, " + i + "), now", Twins::rich, y -> y.fewest(0, true, what), 0);
            t.same("fewest(3, true, " + i + "), STOPPED", Twins::rich, y -> y.fewest(3, true, what), NONE);
            t.same("fewest(0, false, " + i + "), none AGREES now", EdgeDaysTest::never, y -> y.fewest(0, false, what), 1);
            t.same("fewest(0, true, " + i + "), never", EdgeDaysTest::never, y -> y.fewest(0, true, what), NONE);
            t.same("fewest(2, false, " + i + ") without RULES", YesterStreet::new, y -> y.fewest(2, false, what), 0);
            t.same("fewest(2, true, " + i + ") without RULES", YesterStreet::new, y -> y.fewest(2, true, what), NONE);
        }
        YesterStreet x = t.told("street1 4;rule0 0;rule1 0;rule2 0;rule3 0;");
        int[] home = {0, 1, 3, 7, 15};
        for (int p = 0; p < 4; p++) {
            t.due("fewest(0, false, 0), " + p + " at HOME", x.fewest(0, false, 0), 4 - p);
            t.due("fewest(0, false, 1), " + p + " at HOME", x.fewest(0, false, 1), 15 - home[p]);
            t.due("fewest(0, true, 1), " + p + " at HOME", x.fewest(0, true, 1), 0);
            x.home(p, true);
        }
        t.due("fewest(0, false, 0), all at HOME", x.fewest(0, false, 0), 0);
        t.due("fewest(0, false, 1), all at HOME", x.fewest(0, false, 1), 0);
        t.due("fewest(0, true, 0), all at HOME", x.fewest(0, true, 0), NONE);
        x = t.told("street4 4;rule1 1;rule2 2;rule3 0 1 2;");
        t.due("fewest(0, false, 0): one of three", x.fewest(0, false, 0), 1);
        t.due("fewest(0, false, 1): the least", x.fewest(0, false, 1), 2);
        // one alone (3, bits 8) is fewer than two of lesser bits (0 and 1, bits 3)
        x = t.told("street3 4;rule0 1;rule1 1;rule3 0 1;");
        t.due("fewest(0, false, 1): fewest ahead of least", x.fewest(0, false, 1), 8);
    }

    private static void police() {
        t.bad("police(#, 0)", Twins::rich, (y, i) -> y.police(i, 0), -1, 4, MIN, MAX);
        t.bad("police(0, #)", Twins::rich, (y, i) -> y.police(0, i), -1, 2, MIN, MAX);
        t.bad("police(0, #), BAD ahead of NONE", () -> t.told("rule0 0;"), (y, i) -> y.police(0, i), -1, 2);
        for (int i = 0; i < 2; i++) {
            int what = i;
            t.same("police(3, " + i + "), STOPPED", Twins::rich, y -> y.police(3, what), 0);
            t.same("police(2, " + i + "), never there", Twins::rich, y -> y.police(2, what), 0);
            t.same("police(0, " + i + "), by nothing", () -> t.told("rule0 0;"), y -> y.police(0, what), NONE);
            t.same("police(0, " + i + "), none AGREES", EdgeDaysTest::never, y -> y.police(0, what), 0);
            t.same("police(0, " + i + ") without RULES", YesterStreet::new, y -> y.police(0, what), 0);
        }
        YesterStreet x = t.told("street5 1;rule0 1;rule0 2;rule0 3;rule0 4;rule0 0 1;rule0 0 2;rule0 0 3;rule0 0 4;");
        for (int n = 1; n < 5; n++) {
            t.due("police(0, 0): all that is left", x.police(0, 0), 5 - n);
            t.due("police(0, 1): all that is left", x.police(0, 1), 32 - (1 << n));
            x.stop(n, true);
        }
        t.due("police(0, 0): none more", x.police(0, 0), 0);
        t.due("police(0, 1): none more", x.police(0, 1), 0);
        x = t.told("street6 1;rule0 5 3 4;rule0 3;rule0 4;rule0 0 5;");
        t.due("police(5, 1): the least of several", x.police(5, 1), 8);
        t.due("police(0, 1): of three, one", x.police(0, 1), 8);
        // 5 alone (bits 32) is fewer than 1 and 2 (bits 6)
        x = t.told("street6 1;rule0 1;rule0 2;rule0 5 1;rule0 5 2;rule0 0 5;");
        t.due("police(0, 0): fewest ahead of least", x.police(0, 0), 1);
        t.due("police(0, 1): fewest ahead of least", x.police(0, 1), 32);
        t.due("police(5, 1)", x.police(5, 1), 6);
        t.due("police(1, 0), not by itself", x.police(1, 0), NONE);
        // a NOTE that was kept out by another: no day at all is as good
        x = t.told("street2 1;rule0 0;rule0 1;rule0 1 0;");
        t.due("police(0, 0), what is of nothing", x.police(0, 0), NONE);
        // 0 is by 1, without it 2 would come and go: no set AGREES then
        x = t.told("street3 1;rule0 0;rule0 1;rule0 2not1 2;");
        t.due("police(0, 0): so that no set AGREES", x.police(0, 0), 1);
        t.due("police(0, 1): so that no set AGREES", x.police(0, 1), 2);
    }

    // ---- promises 28, 29

    private static void comes() {
        t.same("comes()", Twins::rich, YesterStreet::comes, 1);
        t.same("comes(), none AGREES", EdgeDaysTest::never, YesterStreet::comes, NONE);
        t.same("comes() without RULES", YesterStreet::new, YesterStreet::comes, 0);
        YesterStreet x = t.told(EVERY);
        for (int n = 0; n < 6; n++) {
            x.write(n, true);
            t.due("comes(): it AGREES itself", x.comes(), (2 << n) - 1);
        }
        x = t.told("street6 1;rule0 0;rule0 1;rule0 2;rule0 3;rule0 4;rule0 5;");
        t.due("comes(), unlike in all", x.comes(), 63);
        for (int n = 0; n < 6; n++) x.stop(n, true);
        for (int n = 0; n < 6; n++) t.due("STOPPED", x.write(n, true), STATE);
        t.due("comes(), all STOPPED", x.comes(), 0);
        // {0} and {1} AGREE
        x = t.told("rule0 0not1;rule0 1not0;today0;today1;");
        t.due("comes(): each is unlike in one, the least", x.comes(), 1);
        x.write(0, false);
        t.due("comes(): the other is less unlike", x.comes(), 2);
        x.write(1, false);
        t.due("comes(): each by one NOTE more, the least", x.comes(), 1);
    }

    private static void richest() {
        t.bad("richest(#)", Twins::rich, (y, i) -> y.richest(i), -1, 2, MIN, MAX);
        t.bad("richest(#), BAD ahead of NONE", EdgeDaysTest::never, (y, i) -> y.richest(i), -1, 2, MIN, MAX);
        int[] rich = {1, 105}, bare = {0, 100};
        for (int i = 0; i < 2; i++) {
            int what = i;
            t.same("richest(" + i + ")", Twins::rich, y -> y.richest(what), rich[i]);
            t.same("richest(" + i + "), none AGREES", EdgeDaysTest::never, y -> y.richest(what), NONE);
            t.same("richest(" + i + ") without RULES", YesterStreet::new, y -> y.richest(what), bare[i]);
        }
        YesterStreet x = t.told(EVERY);
        t.due("richest(0), all worth 0: the least", x.richest(0), 0);
        t.due("richest(1), all worth 0", x.richest(1), 100);
        for (int n = 0; n < 6; n++) x.pay(n, 9);
        t.due("richest(0), the most there is", x.richest(0), 63);
        t.due("richest(1), the most there is", x.richest(1), 154);
        for (int n = 0; n < 6; n++) x.pay(n, -9);
        t.due("richest(0), all below 0: nothing", x.richest(0), 0);
        t.due("richest(1), all below 0: nothing", x.richest(1), 100);
        x.pay(5, 1);
        x.pay(0, 0);
        t.due("richest(0): what adds nothing is left", x.richest(0), 32);
        t.due("richest(1)", x.richest(1), 101);
        x = t.told("street6 1;rule0 0;rule0 1;rule0 2;rule0 3;rule0 4;rule0 5;");
        for (int n = 0; n < 6; n++) x.pay(n, -9);
        t.due("richest(0), the least there is", x.richest(0), 63);
        t.due("richest(1), the least there is", x.richest(1), 46);
    }
}
