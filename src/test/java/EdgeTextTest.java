/** The edges of promises 1 to 15: a new object, the text, what there is, what is changed. */
public final class EdgeTextTest {
    private static final int BAD = Twins.BAD, STATE = Twins.STATE, FULL = Twins.FULL, NONE = Twins.NONE;
    private static final int MIN = Twins.MIN, MAX = Twins.MAX;
    private static final Twins t = new Twins("EdgeTextTest");
    /** 23 lines in 160 bytes. */
    private static final String LONGEST = "home0;home1;home2;home3;stop0;stop1;stop2;stop3;stop4;stop5;"
        + "today0;today1;today2;today3;today4;today5;street6 4;debt0 1;debt1 2;debt2 3;debt3 4;debt4 5;debt5 6;";
    private static final String EIGHT = "rule0 0;rule1 1 0;rule0 2 1;rule1 0 2;rule0 1 0 2;rule1 2not0;rule0 0not1;rule1 1not2;";

    public static void main(String[] args) {
        aNewObject();
        feed();
        end();
        textTaken();
        textRefused();
        fault();
        rule();
        law();
        worth();
        write();
        home();
        stop();
        need();
        bar();
        pay();
        cut();
        t.end();
    }

    private static YesterStreet fullTape() {
        YesterStreet x = Twins.rich();
        while (x.count(2) < 160) x.feed(x.count(2) % 2 == 0 ? ' ' : ';');
        return x;
    }

    private static YesterStreet notes(int n) {
        return t.told("street " + n + " 1;");
    }

    // ---- promise 1

    private static void aNewObject() {
        YesterStreet x = new YesterStreet();
        t.due("new: the last of three NOTES", x.worth(2), 100);
        t.due("new: a fourth NOTE", x.worth(3), BAD);
        t.due("new: the last of two PEOPLE", x.home(1, false), 0);
        t.due("new: a third ONE", x.home(2, false), BAD);
        t.due("new: the greatest set", x.brings(7), 0);
        t.due("new: a greater one", x.brings(8), BAD);
        t.due("new: cut(0)", x.cut(0), 0);
        t.due("new: cut(1)", x.cut(1), BAD);
        t.due("new: a RULE", x.law(0, 0), BAD);
        t.due("new: end(0)", x.end(0), 0);
        t.due("new: end(1)", x.end(1), BAD);
        t.due("new: forget(0)", x.forget(0), 0);
        t.due("new: forget(1)", x.forget(1), BAD);
        t.due("new: back(0)", x.back(0), STATE);
        t.due("new: back(1)", x.back(1), STATE);
        for (int k = 0; k < 4; k++) t.due("new: lay on SHEET " + k, x.lay(k, 0, 1), -11);
        t.due("new: count(3)", x.count(3), NONE);
        t.due("new: DAY", x.rule(6), 0);
    }

    // ---- promise 2

    private static void feed() {
        YesterStreet x = new YesterStreet();
        t.due("feed(0), the first", x.feed(0), 1);
        t.due("feed(127)", x.feed(127), 2);
        for (int i = 3; i <= 160; i++) t.due("feed, the " + i + ".", x.feed(i % 128), i);
        t.due("feed, the 161.", x.feed(1), FULL);
        t.due("end(159)", x.end(159), 160);
        t.due("feed, the 160. again", x.feed(1), 160);
        t.due("feed, the 161. again", x.feed(1), FULL);
        t.bad("feed(#)", Twins::rich, (y, i) -> y.feed(i), -1, 128, 160, 256 + 'a', MIN, MAX);
        t.bad("feed(#), BAD ahead of FULL", EdgeTextTest::fullTape, (y, i) -> y.feed(i), -1, 128, MIN, MAX);
        t.same("feed(0), full", EdgeTextTest::fullTape, y -> y.feed(0), FULL);
        t.same("feed(127), full", EdgeTextTest::fullTape, y -> y.feed(127), FULL);
    }

    // ---- promise 3

    private static void end() {
        t.bad("end(#)", Twins::rich, (y, i) -> y.end(i), -1, 25, 160, 161, MIN, MAX);
        t.bad("end(#), full", EdgeTextTest::fullTape, (y, i) -> y.end(i), -1, 161, MIN, MAX);
        t.bad("end(#), empty", YesterStreet::new, (y, i) -> y.end(i), -1, 1, 160);
        t.same("end of all there is", Twins::rich, y -> y.end(24), 24);
        t.same("end(160), full", EdgeTextTest::fullTape, y -> y.end(160), 160);
        t.same("end(0), empty", YesterStreet::new, y -> y.end(0), 0);
        YesterStreet x = new YesterStreet();
        Twins.put(x, "stop 1;stop 2;");
        t.due("end(13)", x.end(13), 14);
        t.due("end(14) behind it", x.end(14), BAD);
        t.due("text() without the last byte", x.text(), -10 - 13);
        goneBytes();
        Twins.put(x, "stop 1;stop 2;");
        t.due("end(0)", x.end(0), 14);
        t.due("text() of nothing", x.text(), 0);
        t.due("STOPPED", x.rule(4), 0);
        Twins.put(x, "stop 1;stop 2;");
        t.due("end(7)", x.end(7), 14);
        Twins.put(x, "home 1;");
        t.due("text() of what was kept and what came", x.text(), 2);
        t.due("STOPPED", x.rule(4), 2);
        t.due("HOME", x.rule(3), 2);
    }

    /** What end() took away is not read any more, though a TOKEN could go on into it. */
    private static void goneBytes() {
        YesterStreet x = new YesterStreet();
        String[] whole = {"stop 12;", "stop 1;", "stops", "stop    1;", "rule 0 0 not 1;"};
        int[] keeps = {6, 6, 4, 6, 12};
        for (int i = 0; i < whole.length; i++) {
            Twins.put(x, whole[i]);
            t.due("end of '" + whole[i] + "'", x.end(keeps[i]), whole[i].length());
            t.due("text() of what is left of '" + whole[i] + "'", x.text(), -10 - keeps[i]);
            t.due("fault()", x.fault(), 2);
        }
        Twins.put(x, "stop 1;stop 2;");
        x.text();
        Twins.put(x, "home 1;");
        t.due("text() shorter than the one before", x.text(), 1);
        String[] tails = {"7", "z", " ", ";"};
        for (int i = 0; i < tails.length; i++) {
            x = new YesterStreet();
            Twins.put(x, "stop " + tails[i].repeat(155));
            t.due("text() of 160, '" + tails[i] + "' to the end", x.text(), -10 - (i == 2 ? 160 : 5));
            t.due("fault()", x.fault(), i == 0 ? 1 : 2);
        }
    }

    // ---- promise 4

    private static void textTaken() {
        t.due("the longest text", LONGEST.length(), 160);
        YesterStreet x = Twins.rich();
        x.end(0);
        Twins.put(x, LONGEST);
        t.due("text() of 160 bytes", x.text(), 23);
        int[] all = {6, 4, 0, 15, 63, 63, 0};
        for (int i = 0; i < 7; i++) t.due("rule(" + i + ") by 160 bytes", x.rule(i), all[i]);
        for (int n = 0; n < 6; n++) t.due("worth(" + n + ") by 160 bytes", x.worth(n), 99 - n);
        t.due("THE TAPE is empty then", x.count(2), 0);
        t.due("nothing is SEEN", x.count(0), 0);
        t.due("IMAGES are gone", x.count(1), 0);
        t.due("torn() stays", x.torn(), 2);
        t.due("a SHEET stays", x.lay(1, 5, 0), 1);
        x = Twins.rich();
        x.end(0);
        t.due("text() of nothing", x.text(), 0);
        int[] first = {3, 2, 0, 0, 0, 0, 0};
        for (int i = 0; i < 7; i++) t.due("rule(" + i + ") by nothing", x.rule(i), first[i]);
        for (int n = 0; n < 3; n++) t.due("worth(" + n + ") by nothing", x.worth(n), 100);
        t.due("nothing is SEEN, by nothing", x.count(0), 0);
        t.due("IMAGES are gone, by nothing", x.count(1), 0);
        t.due("text() again", x.text(), 0);
        for (int i = 0; i < 160; i++) x.feed(' ');
        t.due("text() of 160 blanks", x.text(), 0);
    }

    /** What the text is refused by, THE TAPE being empty then and all else as it was. */
    private static void refused(String text, int fault, int place) {
        YesterStreet x = Twins.rich();
        x.end(0);
        Twins.put(x, text);
        t.due("text() of '" + text + "'", x.text(), -10 - place);
        t.due("fault() of '" + text + "'", x.fault(), fault);
        t.due("THE TAPE behind '" + text + "'", x.count(2), 0);
        for (Twins.Probe probe : Twins.Probe.values()) {
            YesterStreet was = Twins.rich();
            was.end(0);
            YesterStreet is = Twins.rich();
            is.end(0);
            Twins.put(is, text);
            is.text();
            // a FAULT of the one kind in both, so that this is no difference
            was.feed('?');
            was.text();
            is.feed('?');
            is.text();
            t.due(probe + " behind '" + text + "'", probe.ask(is).equals(probe.ask(was)) ? 1 : 0, 1);
        }
    }

    private static void textRefused() {
        refused("?" + LONGEST.substring(1), 1, 0);
        refused(LONGEST.substring(0, 159) + "?", 1, 159);
        refused(LONGEST.substring(0, 159) + " ", 2, 160);
        refused(LONGEST.substring(0, 159) + "x", 2, 159);
        refused(LONGEST.substring(0, 159) + "6", 3, 158);
        refused(" ".repeat(159) + "1", 2, 159);
        refused(" ".repeat(158) + "11", 2, 158);
        refused(" ".repeat(157) + "111", 1, 157);
        refused(";", 2, 0);
        refused("s", 2, 0);
        refused("stop", 2, 4);
        refused("street 7 1;", 3, 7);
        refused("street 1 1;street 1 1;", 4, 11);
        refused(EIGHT + "rule", 5, EIGHT.length());
        refused("stop 3;", 6, 7);
        refused("home 2;", 7, 7);
    }

    // ---- promise 5

    private static void fault() {
        YesterStreet x = new YesterStreet();
        t.due("fault() ahead of all", x.fault(), 0);
        String[] texts = {"", "?", ";", "stop 6;", "stop 1;stop 1;", EIGHT + "rule", "stop 3;", "home 2;"};
        for (int i = 7; i >= 0; i--) {
            Twins.put(x, texts[i]);
            t.due("fault() ahead of text(), the " + i + ".", x.fault(), i == 7 ? 0 : i + 1);
            x.text();
            t.due("fault() behind text(), the " + i + ".", x.fault(), i);
        }
        Twins.put(x, "?");
        x.text();
        x.feed('a');
        x.feed(200);
        x.end(0);
        x.end(7);
        x.write(0, true);
        x.read(0, 0, 0, 1);
        x.keep(0);
        x.back(0);
        t.due("fault() behind other calls", x.fault(), 1);
        t.same("fault()", Twins::rich, YesterStreet::fault, 3);
    }

    // ---- promises 6, 7, 8

    private static void rule() {
        int[] all = {4, 3, 4, 4, 8, 9, 3};
        for (int i = 0; i < 7; i++) {
            int what = i;
            t.same("rule(" + i + ")", Twins::rich, y -> y.rule(what), all[i]);
        }
        t.bad("rule(#)", Twins::rich, (y, i) -> y.rule(i), -1, 7, MIN, MAX);
        t.due("rule(0), one NOTE", notes(1).rule(0), 1);
        t.due("rule(0), six", notes(6).rule(0), 6);
        t.due("rule(1), one ONE", notes(1).rule(1), 1);
        t.due("rule(1), four", t.told("street 1 4;").rule(1), 4);
        t.due("rule(2), eight", t.told(EIGHT).rule(2), 8);
    }

    private static void law() {
        YesterStreet x = t.told(EIGHT);
        int[] first = {0, 0, 0, 0, 1}, fifth = {0, 1, 5, 0, 0}, last = {1, 1, 0, 4, 1};
        for (int i = 0; i < 5; i++) {
            t.due("law(0, " + i + ")", x.law(0, i), first[i]);
            t.due("law(4, " + i + ")", x.law(4, i), fifth[i]);
            t.due("law(7, " + i + ")", x.law(7, i), last[i]);
        }
        t.due("law(8, 0)", x.law(8, 0), BAD);
        t.due("cut(7)", x.cut(7), 8);
        t.due("law(6, 0), the last", x.law(6, 0), 0);
        t.due("law(7, 0) behind cut(7)", x.law(7, 0), BAD);
        t.bad("law(#, 0)", Twins::rich, (y, i) -> y.law(i, 0), -1, 4, 8, MIN, MAX);
        t.bad("law(0, #)", Twins::rich, (y, i) -> y.law(0, i), -1, 5, MIN, MAX);
        t.bad("law(#, 4) without RULES", YesterStreet::new, (y, i) -> y.law(i, 4), -1, 0, 1);
        x = t.told("street 6 4;rule 3 5 0 1 2 3 4 5;rule 0 0 not 0 1 2 3 4 5;");
        t.due("all NEEDS", x.law(0, 2), 63);
        t.due("all BARS", x.law(1, 3), 63);
        t.due("the greatest ONE", x.law(0, 0), 3);
        t.due("the greatest NOTE", x.law(0, 1), 5);
        t.due("law(0, 4), nothing of NEEDS", x.law(0, 4), 0);
        t.due("law(1, 4), nothing of BARS", x.law(1, 4), 1);
        for (int n = 0; n < 6; n++) x.write(n, true);
        t.due("law(0, 4), all NEEDS", x.law(0, 4), 1);
        t.due("law(1, 4), all BARS", x.law(1, 4), 0);
        x.write(5, false);
        t.due("law(0, 4), all NEEDS but one", x.law(0, 4), 0);
        t.due("law(1, 4), all BARS but one", x.law(1, 4), 0);
    }

    private static void worth() {
        t.bad("worth(#)", Twins::rich, (y, i) -> y.worth(i), -1, 4, MIN, MAX);
        t.bad("worth(#) of one", () -> notes(1), (y, i) -> y.worth(i), -1, 1);
        t.bad("worth(#) of six", () -> notes(6), (y, i) -> y.worth(i), -1, 6);
        YesterStreet x = t.told("street 6 1;worth 0 9;debt 5 9;worth 1 0;debt 2 0;");
        int[] all = {109, 100, 100, 100, 100, 91};
        for (int n = 0; n < 6; n++) t.due("worth(" + n + ")", x.worth(n), all[n]);
    }

    // ---- promises 9, 10, 11

    private static void write() {
        for (boolean is : new boolean[] {false, true}) {
            t.bad("write(#, " + is + ")", Twins::rich, (y, i) -> y.write(i, is), -1, 4, 32, MIN, MAX);
            t.bad("write(#, " + is + ") of six", () -> notes(6), (y, i) -> y.write(i, is), -1, 6);
        }
        t.same("write(3, true), STOPPED and there", Twins::rich, y -> y.write(3, true), STATE);
        t.same("write(0, true), STOPPED, not there", () -> t.told("stop 0;"), y -> y.write(0, true), STATE);
        t.same("write(0, true), there already", Twins::rich, y -> y.write(0, true), 1);
        t.same("write(1, false), not there", Twins::rich, y -> y.write(1, false), 0);
        t.same("write(0, false), STOPPED, not there", () -> t.told("stop 0;"), y -> y.write(0, false), 0);
        YesterStreet x = notes(6);
        for (int n = 0; n < 6; n++) {
            t.due("write(" + n + ", true)", x.write(n, true), 0);
            t.due("TODAY", x.rule(5), (2 << n) - 1);
        }
        t.due("NOTES of TODAY, all", x.count(4), 6);
        x.stop(5, true);
        t.due("write(5, false), STOPPED and there", x.write(5, false), 1);
        t.due("TODAY", x.rule(5), 31);
        t.due("write(5, true), STOPPED", x.write(5, true), STATE);
        x.stop(5, false);
        t.due("write(5, true), no more STOPPED", x.write(5, true), 0);
    }

    private static void home() {
        for (boolean is : new boolean[] {false, true}) {
            t.bad("home(#, " + is + ")", Twins::rich, (y, i) -> y.home(i, is), -1, 3, 32, MIN, MAX);
            t.bad("home(#, " + is + ") of one", () -> notes(1), (y, i) -> y.home(i, is), -1, 1);
            t.bad("home(#, " + is + ") of four", () -> t.told("street 1 4;"), (y, i) -> y.home(i, is), -1, 4);
        }
        t.same("home(2, true), there already", Twins::rich, y -> y.home(2, true), 1);
        t.same("home(0, false), not there", Twins::rich, y -> y.home(0, false), 0);
        YesterStreet x = t.told("street 1 4;rule 3 0;");
        for (int p = 0; p < 4; p++) {
            t.due("brings(0), " + p + " not yet at HOME", x.brings(0), 1);
            t.due("home(" + p + ", true)", x.home(p, true), 0);
            t.due("HOME", x.rule(3), (2 << p) - 1);
        }
        t.due("brings(0), all at HOME", x.brings(0), 0);
        t.due("home(3, false)", x.home(3, false), 1);
        t.due("HOME", x.rule(3), 7);
    }

    private static void stop() {
        for (boolean is : new boolean[] {false, true}) {
            t.bad("stop(#, " + is + ")", Twins::rich, (y, i) -> y.stop(i, is), -1, 4, 32, MIN, MAX);
            t.bad("stop(#, " + is + ") of six", () -> notes(6), (y, i) -> y.stop(i, is), -1, 6);
        }
        t.same("stop(3, true), STOPPED already", Twins::rich, y -> y.stop(3, true), 1);
        t.same("stop(0, false), not STOPPED", Twins::rich, y -> y.stop(0, false), 0);
        YesterStreet x = notes(6);
        for (int n = 0; n < 6; n++) x.write(n, true);
        for (int n = 0; n < 6; n++) {
            t.due("stop(" + n + ", true)", x.stop(n, true), 0);
            t.due("STOPPED", x.rule(4), (2 << n) - 1);
            t.due("TODAY stays", x.rule(5), 63);
        }
        t.due("stop(0, false)", x.stop(0, false), 1);
        t.due("STOPPED", x.rule(4), 62);
    }

    // ---- promises 12, 13

    private static void need() {
        for (boolean is : new boolean[] {false, true}) {
            t.bad("need(#, 0, " + is + ")", Twins::rich, (y, i) -> y.need(i, 0, is), -1, 4, 8, MIN, MAX);
            t.bad("need(1, #, " + is + ")", Twins::rich, (y, i) -> y.need(1, i, is), -1, 4, 32, MIN, MAX);
            t.bad("need(#, #, " + is + ") without RULES", YesterStreet::new, (y, i) -> y.need(i, i, is), -1, 0, 1);
        }
        t.same("need(0, 1, true), among BARS", Twins::rich, y -> y.need(0, 1, true), STATE);
        t.same("need(0, 1, false), among BARS", Twins::rich, y -> y.need(0, 1, false), 0);
        t.same("need(2, 0, true), among NEEDS", Twins::rich, y -> y.need(2, 0, true), 1);
        t.same("need(0, 2, false), in neither", Twins::rich, y -> y.need(0, 2, false), 0);
        YesterStreet x = t.told("street 6 1;rule0 0;rule0 0;rule0 0;rule0 0;rule0 0;rule0 0;rule0 0;rule0 0;");
        for (int n = 0; n < 6; n++) {
            t.due("need(7, " + n + ", true)", x.need(7, n, true), 0);
            t.due("NEEDS of the last", x.law(7, 2), (2 << n) - 1);
            t.due("bar(7, " + n + ", true)", x.bar(7, n, true), STATE);
        }
        for (int n = 0; n < 6; n++) t.due("need(7, " + n + ", false)", x.need(7, n, false), 1);
        t.due("NEEDS of the last", x.law(7, 2), 0);
        t.due("bar(7, 5, true)", x.bar(7, 5, true), 0);
        for (int k = 0; k < 7; k++) t.due("NEEDS of RULE " + k, x.law(k, 2) + x.law(k, 3), 0);
        x.cut(7);
        t.due("need of a RULE that was cut", x.need(7, 0, true), BAD);
    }

    private static void bar() {
        for (boolean is : new boolean[] {false, true}) {
            t.bad("bar(#, 0, " + is + ")", Twins::rich, (y, i) -> y.bar(i, 0, is), -1, 4, 8, MIN, MAX);
            t.bad("bar(1, #, " + is + ")", Twins::rich, (y, i) -> y.bar(1, i, is), -1, 4, 32, MIN, MAX);
            t.bad("bar(#, #, " + is + ") without RULES", YesterStreet::new, (y, i) -> y.bar(i, i, is), -1, 0, 1);
        }
        t.same("bar(2, 0, true), among NEEDS", Twins::rich, y -> y.bar(2, 0, true), STATE);
        t.same("bar(2, 0, false), among NEEDS", Twins::rich, y -> y.bar(2, 0, false), 0);
        t.same("bar(0, 1, true), among BARS", Twins::rich, y -> y.bar(0, 1, true), 1);
        t.same("bar(0, 2, false), in neither", Twins::rich, y -> y.bar(0, 2, false), 0);
        YesterStreet x = t.told("street 6 1;rule0 0;rule0 0;");
        for (int n = 0; n < 6; n++) {
            t.due("bar(1, " + n + ", true)", x.bar(1, n, true), 0);
            t.due("BARS of the last", x.law(1, 3), (2 << n) - 1);
            t.due("need(1, " + n + ", true)", x.need(1, n, true), STATE);
        }
        for (int n = 0; n < 6; n++) t.due("bar(1, " + n + ", false)", x.bar(1, n, false), 1);
        t.due("BARS of the last", x.law(1, 3), 0);
        t.due("need(1, 5, true)", x.need(1, 5, true), 0);
        t.due("BARS of the first", x.law(0, 3) + x.law(0, 2), 0);
    }

    // ---- promises 14, 15

    private static void pay() {
        t.bad("pay(#, 0)", Twins::rich, (y, i) -> y.pay(i, 0), -1, 4, 32, MIN, MAX);
        t.bad("pay(0, #)", Twins::rich, (y, i) -> y.pay(0, i), -10, 10, 100, MIN, MAX);
        t.same("pay(0, 5), as it is", Twins::rich, y -> y.pay(0, 5), 105);
        YesterStreet x = notes(6);
        for (int v = -9; v <= 9; v++) {
            t.due("pay(5, " + v + ")", x.pay(5, v), v == -9 ? 100 : 99 + v);
            t.due("worth(5)", x.worth(5), 100 + v);
        }
        for (int n = 0; n < 5; n++) t.due("worth(" + n + ") of another", x.worth(n), 100);
    }

    private static void cut() {
        t.bad("cut(#)", Twins::rich, (y, i) -> y.cut(i), -1, 5, 8, 9, MIN, MAX);
        t.bad("cut(#) of eight", () -> t.told(EIGHT), (y, i) -> y.cut(i), -1, 9);
        t.bad("cut(#) without RULES", YesterStreet::new, (y, i) -> y.cut(i), -1, 1, 8);
        t.same("cut of none", Twins::rich, y -> y.cut(4), 4);
        t.same("cut(0) without RULES", YesterStreet::new, y -> y.cut(0), 0);
        t.same("cut(8) of eight", () -> t.told(EIGHT), y -> y.cut(8), 8);
        YesterStreet x = t.told(EIGHT);
        for (int n = 7; n >= 0; n--) {
            t.due("cut(" + n + ")", x.cut(n), n + 1);
            t.due("RULES", x.rule(2), n);
            t.due("cut(" + (n + 1) + ") behind it", x.cut(n + 1), BAD);
        }
        t.due("brings(0) without RULES", x.brings(0), 0);
        x = t.told(EIGHT);
        t.due("cut(0)", x.cut(0), 8);
        t.due("law(0, 0)", x.law(0, 0), BAD);
    }
}
