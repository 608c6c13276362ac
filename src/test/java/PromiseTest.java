/** Each promise by hand: ordinary inputs, the edges that the document names, wrong inputs. */
public final class PromiseTest {
    private static final int BAD = -1, STATE = -2, FULL = -3, NONE = -4;
    private static final int MIN = Integer.MIN_VALUE, MAX = Integer.MAX_VALUE;
    /** Three NOTES and two PEOPLE; the sets {0} and {1} AGREE. */
    private static final String EITHER = "rule 0 0 not 1;rule 1 1 not 0;";
    /** No set AGREES. */
    private static final String NEVER = "rule 0 0 not 0;";
    /** {} brings {0}, that {0 1}, that {0 1 2}, that {1 2}, that {2}, that {}; and {1} {0 2}, that {1}. */
    private static final String WHEEL = "rule 0 0 not 2;rule 0 1 0;rule 1 2 1;";
    private static int wrong = 0, made = 0;

    private static void due(String what, long got, long want) {
        made++;
        if (got != want) {
            wrong++;
            System.out.println("PromiseTest: " + what + " answered " + got + ", due is " + want);
        }
    }

    private static void put(YesterStreet x, String text) {
        for (char c : text.toCharArray()) x.feed(c);
    }

    private static YesterStreet street(String text) {
        YesterStreet x = new YesterStreet();
        put(x, text);
        int lines = x.text();
        int semicolons = text.length() - text.replace(";", "").length();
        due("text() of " + text, lines, semicolons);
        return x;
    }

    public static void main(String[] args) {
        aNewObject();
        feedAndEnd();
        fullTape();
        textThatIsTaken();
        textFaults();
        textFaultOrder();
        ruleAndLawAndWorth();
        writeHomeStop();
        needAndBar();
        payAndCut();
        brings();
        day();
        round();
        days();
        firstAndLess();
        beginsAndPure();
        wroteAndCould();
        fewest();
        police();
        comesAndRichest();
        odds();
        seeAndForget();
        fitsAndAsk();
        drift();
        keepAndBack();
        sheetAndLay();
        read();
        readRefused();
        torn();
        count();
        System.out.println("PromiseTest: " + made + " answers, " + wrong + " not as due");
        if (wrong != 0) System.exit(1);
    }

    private static void aNewObject() {
        YesterStreet x = new YesterStreet();
        int[] first = {3, 2, 0, 0, 0, 0, 0};
        for (int i = 0; i < 7; i++) due("new: rule(" + i + ")", x.rule(i), first[i]);
        int[] counts = {0, 0, 0, NONE, 0, 0};
        for (int i = 0; i < 6; i++) due("new: count(" + i + ")", x.count(i), counts[i]);
        for (int n = 0; n < 3; n++) due("new: worth(" + n + ")", x.worth(n), 100);
        for (int k = 0; k < 4; k++) due("new: lay(" + k + ", 0, 0)", x.lay(k, 0, 0), -11);
        due("new: fault()", x.fault(), 0);
        due("new: torn()", x.torn(), 0);
        due("new: back(0)", x.back(0), STATE);
        due("new: law(0, 0)", x.law(0, 0), BAD);
        due("new: days(0)", x.days(0), 1);
        YesterStreet y = new YesterStreet();
        y.write(0, true);
        due("new: another object's TODAY", x.rule(5), 0);
    }

    private static void feedAndEnd() {
        YesterStreet x = new YesterStreet();
        due("feed(-1)", x.feed(-1), BAD);
        due("feed(128)", x.feed(128), BAD);
        due("feed(MIN)", x.feed(MIN), BAD);
        due("feed(0)", x.feed(0), 1);
        due("feed(127)", x.feed(127), 2);
        for (int i = 3; i <= 160; i++) due("feed(32)", x.feed(32), i);
        due("feed(32), the 161st", x.feed(32), FULL);
        due("feed(128), the 161st", x.feed(128), BAD);
        due("count(2)", x.count(2), 160);
        due("end(161)", x.end(161), BAD);
        due("end(-1)", x.end(-1), BAD);
        due("end(160)", x.end(160), 160);
        due("end(5)", x.end(5), 160);
        due("end(6)", x.end(6), BAD);
        due("feed(32) behind end", x.feed(32), 6);
        due("end(0)", x.end(0), 6);
        due("end(0) again", x.end(0), 0);
        put(x, "stop 1;today 2;stop 0;");
        due("end(15)", x.end(15), 22);
        due("text() of what was kept", x.text(), 2);
        due("STOPPED", x.rule(4), 2);
        due("TODAY", x.rule(5), 4);
        due("THE TAPE behind text()", x.count(2), 0);
    }

    private static void fullTape() {
        YesterStreet x = new YesterStreet();
        for (int i = 0; i < 160; i++) x.feed(';');
        due("text() of 160 ;", x.text(), -10);
        due("fault()", x.fault(), 2);
        for (int i = 0; i < 159; i++) x.feed(' ');
        x.feed('a');
        due("text() with a NAME at the last place", x.text(), -10 - 159);
        for (int i = 0; i < 160; i++) x.feed('7');
        due("text() of 160 figures", x.text(), -10);
        due("fault()", x.fault(), 1);
        x = new YesterStreet();
        put(x, "street 1 1;");
        while (x.count(2) < 160) x.feed(' ');
        due("text() with blanks to the end", x.text(), 1);
    }

    private static void textThatIsTaken() {
        YesterStreet x = new YesterStreet();
        x.write(1, true);
        x.home(0, true);
        x.stop(2, true);
        x.pay(0, 4);
        x.day(3);
        x.see(0, true);
        x.keep(0);
        x.keep(1);
        x.sheet(0, 2, 7);
        put(x, "  rule 3 05 4 not 0 1 ;street6 4;debt 0 9; worth 1 09;debt 2 0;home 3 ;stop 5;stop 00;today 5;today1;  ");
        due("text()", x.text(), 10);
        due("fault()", x.fault(), 0);
        int[] told = {6, 4, 1, 8, 33, 34, 0};
        for (int i = 0; i < 7; i++) due("told: rule(" + i + ")", x.rule(i), told[i]);
        int[] worths = {91, 109, 100, 100, 100, 100};
        for (int n = 0; n < 6; n++) due("told: worth(" + n + ")", x.worth(n), worths[n]);
        int[] law = {3, 5, 16, 3, 0};
        for (int i = 0; i < 5; i++) due("told: law(0, " + i + ")", x.law(0, i), law[i]);
        due("nothing is SEEN", x.count(0), 0);
        due("IMAGES are gone", x.count(1), 0);
        due("back(1)", x.back(1), STATE);
        due("SHEETS stay", x.count(3), 7);
        due("text() of nothing", x.text(), 0);
        int[] first = {3, 2, 0, 0, 0, 0, 0};
        for (int i = 0; i < 7; i++) due("told by nothing: rule(" + i + ")", x.rule(i), first[i]);
        for (int n = 0; n < 3; n++) due("told by nothing: worth(" + n + ")", x.worth(n), 100);
        put(x, "   ");
        due("text() of blanks", x.text(), 0);
        for (int i = 0; i < 2; i++) {
            put(x, "street 4 1;worth 3 1;home 0;stop 3;today 3;rule 0 3 3;");
            due("text() like the one before", x.text(), 6);
        }
        StringBuilder eight = new StringBuilder();
        for (int i = 0; i < 8; i++) eight.append("rule 1 ").append(i % 3).append(";");
        x = street(eight.toString());
        due("eight RULES", x.rule(2), 8);
        due("the eighth writes", x.law(7, 1), 1);
    }

    private static void faulty(String text, int fault, int place) {
        YesterStreet x = street(EITHER + "today 1;");
        x.see(0, true);
        x.keep(1);
        x.day(2);
        put(x, text);
        due("text() of '" + text + "'", x.text(), -10 - place);
        due("fault() of '" + text + "'", x.fault(), fault);
        due("THE TAPE behind '" + text + "'", x.count(2), 0);
        int[] stays = {3, 2, 2, 0, 0, 2, 2};
        for (int i = 0; i < 7; i++) due("rule(" + i + ") behind '" + text + "'", x.rule(i), stays[i]);
        due("SEEN behind '" + text + "'", x.count(0), 1);
        due("back(1) behind '" + text + "'", x.back(1), 2);
        due("text() behind '" + text + "'", x.text(), 0);
        due("fault() of nothing behind '" + text + "'", x.fault(), 0);
    }

    private static void textFaults() {
        faulty("A", 1, 0);
        faulty("  `", 1, 2);
        faulty("stop 1;{", 1, 7);
        faulty("stop /", 1, 5);
        faulty("stop :", 1, 5);
        faulty("stop -1;", 1, 5);
        faulty("stop 1\t;", 1, 6);
        faulty("stop 1\n;", 1, 6);
        faulty("stop \0", 1, 5);
        faulty("stop 001;", 1, 5);
        faulty("123", 1, 0);
        faulty(";", 2, 0);
        faulty("1", 2, 0);
        faulty("not 1;", 2, 0);
        faulty("stops 1;", 2, 0);
        faulty("sto 1;", 2, 0);
        faulty("xtop 1;", 2, 0);
        faulty("Stop 1;", 1, 0);
        faulty("zza", 2, 0);
        faulty("stop az", 2, 5);
        faulty("stop", 2, 4);
        faulty("stop  ", 2, 6);
        faulty("stop 1", 2, 6);
        faulty("stop 1 ", 2, 7);
        faulty("stop 1 2;", 2, 7);
        faulty("stop ;", 2, 5);
        faulty("stop not;", 2, 5);
        faulty("stop 1;;", 2, 7);
        faulty("street 1;", 2, 8);
        faulty("street 1 1 1;", 2, 11);
        faulty("worth 1;", 2, 7);
        faulty("debt 1 x;", 2, 7);
        faulty("rule ;", 2, 5);
        faulty("rule 0;", 2, 6);
        faulty("rule 0 0 rule 0 0;", 2, 9);
        faulty("rule 0 0 not;", 2, 12);
        faulty("rule 0 0 not ", 2, 13);
        faulty("rule 0 0 not not 1;", 2, 13);
        faulty("rule 0 0 not 1 not 2;", 2, 15);
        faulty("rule 0 0 1", 2, 10);
        faulty("rule 0 0 nots 1;", 2, 9);
        faulty("street 0 1;", 3, 7);
        faulty("street 7 1;", 3, 7);
        faulty("street 1 0;", 3, 9);
        faulty("street 1 5;", 3, 9);
        faulty("rule 4 0;", 3, 5);
        faulty("rule 0 6;", 3, 7);
        faulty("rule 0 0 6;", 3, 9);
        faulty("rule 0 0 not 6;", 3, 13);
        faulty("worth 6 0;", 3, 6);
        faulty("worth 0 10;", 3, 8);
        faulty("debt 6 0;", 3, 5);
        faulty("debt 0 10;", 3, 7);
        faulty("home 4;", 3, 5);
        faulty("stop 6;", 3, 5);
        faulty("today 99;", 3, 6);
        faulty("street 3 2;street 3 2;", 4, 11);
        faulty("rule 0 0 1 1;", 4, 11);
        faulty("rule 0 0 not 1 2 1;", 4, 17);
        faulty("rule 0 0 1 not 1;", 4, 15);
        faulty("worth 1 0;worth 1 0;", 4, 16);
        faulty("worth 1 2;debt 1 2;", 4, 15);
        faulty("worth 1 2;worth 0 2;worth 1 2;", 4, 26);
        faulty("debt 1 2;worth 1 2;", 4, 15);
        faulty("home 1;home 1;", 4, 12);
        faulty("stop 1;stop 1;", 4, 12);
        faulty("today 1;today 1;", 4, 14);
        faulty("rule 0 0;rule 0 0;rule 0 0;rule 0 0;rule 0 0;rule 0 0;rule 0 0;rule 0 0; rule 0 0;", 5, 73);
        faulty("rule 0 3;", 6, 9);
        faulty("rule 0 0 3;", 6, 11);
        faulty("rule 0 0 not 3;", 6, 15);
        faulty("worth 3 0; ", 6, 11);
        faulty("debt 3 0;", 6, 9);
        faulty("stop 3;", 6, 7);
        faulty("today 3;", 6, 8);
        faulty("today 5;street 5 1;", 6, 19);
        faulty("stop 3;stop 0;", 6, 14);
        faulty("home 2;", 7, 7);
        faulty("home 2;home 0;", 7, 14);
        faulty("rule 2 0;", 7, 9);
        faulty("rule 1 0;street 3 1;", 7, 20);
    }

    private static void textFaultOrder() {
        // a TOKEN is read when the one before has been taken
        faulty("stop 9 A", 3, 5);
        faulty("stops A", 2, 0);
        faulty("street 3 2;street A", 4, 11);
        faulty("worth 1 1;worth 1 99;", 4, 16);
        faulty("worth 1 1;worth 6 1;", 3, 16);
        faulty("rule 0 0 1 1 A", 4, 11);
        faulty("rule 0 0 9 A", 3, 9);
        faulty("rule 0 0 A;B", 1, 9);
        faulty("rule A;B", 1, 5);
        faulty("stop A;B", 1, 5);
        faulty("rule 0 0;rule 0 0;rule 0 0;rule 0 0;rule 0 0;rule 0 0;rule 0 0;rule 0 0;rule A", 5, 72);
        // behind all alone, 6 ahead of 7
        faulty("stop 5;home 3;A", 1, 14);
        faulty("home 3;stop 5;", 6, 14);
        faulty("rule 3 0;worth 4 0;street 4 3;", 6, 30);
        YesterStreet x = street("rule 3 5;home 3;today 5;street 6 4;");
        due("NOTES told behind their use", x.rule(0), 6);
        x = street("stop 1;today 1;rule 0 1 1;");
        due("a NOTE of TODAY that is STOPPED", x.rule(5) & x.rule(4), 2);
    }

    private static void ruleAndLawAndWorth() {
        YesterStreet x = street("street 5 3;rule 2 4 0 3 not 1;rule 0 1;home 1;home 2;stop 4;today 0;today 3;worth 4 8;debt 3 9;");
        int[] rules = {5, 3, 2, 6, 16, 9, 0};
        for (int i = 0; i < 7; i++) due("rule(" + i + ")", x.rule(i), rules[i]);
        for (int i : new int[] {-1, 7, MIN, MAX}) due("rule(" + i + ")", x.rule(i), BAD);
        int[] law = {2, 4, 9, 2, 0};
        for (int i = 0; i < 5; i++) due("law(0, " + i + ")", x.law(0, i), law[i]);
        int[] law1 = {0, 1, 0, 0, 1};
        for (int i = 0; i < 5; i++) due("law(1, " + i + ")", x.law(1, i), law1[i]);
        x.home(2, false);
        due("law(0, 4), he being out", x.law(0, 4), 1);
        x.write(1, true);
        due("law(0, 4), a NOTE of BARS being there", x.law(0, 4), 0);
        x.write(1, false);
        x.write(3, false);
        due("law(0, 4), a NOTE of NEEDS not being there", x.law(0, 4), 0);
        for (int i : new int[] {-1, 5, MIN, MAX}) due("law(0, " + i + ")", x.law(0, i), BAD);
        for (int i : new int[] {-1, 2, MIN, MAX}) due("law(" + i + ", 0)", x.law(i, 0), BAD);
        due("worth(4)", x.worth(4), 108);
        due("worth(3)", x.worth(3), 91);
        for (int i : new int[] {-1, 5, MIN, MAX}) due("worth(" + i + ")", x.worth(i), BAD);
        x.day(7);
        due("DAY", x.rule(6), 7);
    }

    private static void writeHomeStop() {
        YesterStreet x = new YesterStreet();
        due("write(2, true)", x.write(2, true), 0);
        due("write(2, true) again", x.write(2, true), 1);
        due("write(0, false)", x.write(0, false), 0);
        due("TODAY", x.rule(5), 4);
        due("stop(2, true)", x.stop(2, true), 0);
        due("stop(2, true) again", x.stop(2, true), 1);
        due("TODAY stays", x.rule(5), 4);
        due("write(2, true), STOPPED and there", x.write(2, true), STATE);
        due("write(2, false), STOPPED", x.write(2, false), 1);
        due("write(2, true), STOPPED", x.write(2, true), STATE);
        due("TODAY", x.rule(5), 0);
        due("stop(2, false)", x.stop(2, false), 1);
        due("stop(2, false) again", x.stop(2, false), 0);
        due("write(2, true)", x.write(2, true), 0);
        for (int i : new int[] {-1, 3, MIN, MAX}) {
            due("write(" + i + ", true)", x.write(i, true), BAD);
            due("write(" + i + ", false)", x.write(i, false), BAD);
            due("stop(" + i + ", true)", x.stop(i, true), BAD);
        }
        due("home(1, true)", x.home(1, true), 0);
        due("home(1, true) again", x.home(1, true), 1);
        due("home(0, false)", x.home(0, false), 0);
        due("HOME", x.rule(3), 2);
        due("home(1, false)", x.home(1, false), 1);
        due("HOME", x.rule(3), 0);
        for (int i : new int[] {-1, 2, MIN, MAX}) due("home(" + i + ", true)", x.home(i, true), BAD);
        due("STOPPED", x.rule(4), 0);
    }

    private static void needAndBar() {
        YesterStreet x = street("rule 0 0 1 not 2;rule 0 1;");
        due("need(0, 1, true)", x.need(0, 1, true), 1);
        due("need(0, 2, true), barred", x.need(0, 2, true), STATE);
        due("need(0, 2, false), barred", x.need(0, 2, false), 0);
        due("need(0, 0, true)", x.need(0, 0, true), 0);
        due("NEEDS", x.law(0, 2), 3);
        due("bar(0, 2, true)", x.bar(0, 2, true), 1);
        due("bar(0, 0, true), needed", x.bar(0, 0, true), STATE);
        due("bar(0, 0, false), needed", x.bar(0, 0, false), 0);
        due("need(0, 0, false)", x.need(0, 0, false), 1);
        due("bar(0, 0, true)", x.bar(0, 0, true), 0);
        due("NEEDS", x.law(0, 2), 2);
        due("BARS", x.law(0, 3), 5);
        due("bar(0, 2, false)", x.bar(0, 2, false), 1);
        due("BARS", x.law(0, 3), 1);
        due("the other RULE's NEEDS", x.law(1, 2), 0);
        due("the other RULE's BARS", x.law(1, 3), 0);
        for (int i : new int[] {-1, 2, MIN, MAX}) {
            due("need(" + i + ", 0, true)", x.need(i, 0, true), BAD);
            due("bar(" + i + ", 0, true)", x.bar(i, 0, true), BAD);
        }
        for (int i : new int[] {-1, 3, MIN, MAX}) {
            due("need(0, " + i + ", true)", x.need(0, i, true), BAD);
            due("bar(0, " + i + ", true)", x.bar(0, i, true), BAD);
        }
    }

    private static void payAndCut() {
        YesterStreet x = street("rule 0 0 not 0;rule 1 1;rule 1 2;debt 2 4;");
        due("pay(2, 9)", x.pay(2, 9), 96);
        due("pay(2, -9)", x.pay(2, -9), 109);
        due("pay(2, 0)", x.pay(2, 0), 91);
        due("worth(2)", x.worth(2), 100);
        due("pay(2, 10)", x.pay(2, 10), BAD);
        due("pay(2, -10)", x.pay(2, -10), BAD);
        due("pay(3, 0)", x.pay(3, 0), BAD);
        due("pay(-1, 0)", x.pay(-1, 0), BAD);
        due("cut(4)", x.cut(4), BAD);
        due("cut(-1)", x.cut(-1), BAD);
        due("cut(3)", x.cut(3), 3);
        due("cut(1)", x.cut(1), 3);
        due("RULES", x.rule(2), 1);
        due("law(1, 0)", x.law(1, 0), BAD);
        due("brings(0)", x.brings(0), 1);
        due("cut(2)", x.cut(2), BAD);
        due("cut(0)", x.cut(0), 1);
        due("days(0)", x.days(0), 1);
    }

    private static void brings() {
        YesterStreet x = street(WHEEL);
        int[] next = {1, 3, 5, 7, 0, 2, 4, 6};
        for (int s = 0; s < 8; s++) due("brings(" + s + ") of the wheel", x.brings(s), next[s]);
        for (int i : new int[] {-1, 8, MIN, MAX}) due("brings(" + i + ")", x.brings(i), BAD);
        x.stop(1, true);
        due("brings(1), 1 STOPPED", x.brings(1), 1);
        due("brings(2) of a STOPPED NOTE", x.brings(2), 5);
        x.home(0, true);
        due("brings(3), 0 at HOME", x.brings(3), 4);
        due("TODAY stays", x.rule(5), 0);
        x = street("street 6 1;rule 0 5;");
        due("brings(63)", x.brings(63), 32);
        due("brings(64)", x.brings(64), BAD);
    }

    private static void day() {
        YesterStreet x = street(WHEEL);
        due("day(0)", x.day(0), 0);
        due("day(1)", x.day(1), 1);
        due("day(2)", x.day(2), 7);
        due("DAY", x.rule(6), 3);
        due("day(-1)", x.day(-1), BAD);
        due("day(61)", x.day(61), BAD);
        due("day(60)", x.day(60), 7);
        for (int i = 0; i < 15; i++) due("day(60)", x.day(60), 7);
        due("DAY", x.rule(6), 963);
        due("day(37)", x.day(37), FULL);
        due("day(61) late", x.day(61), BAD);
        due("DAY stays", x.rule(6), 963);
        due("TODAY stays", x.rule(5), 7);
        due("day(36)", x.day(36), 7);
        due("DAY", x.rule(6), 999);
        due("day(0) on the last", x.day(0), 7);
        due("day(1) on the last", x.day(1), FULL);
    }

    private static void round() {
        YesterStreet x = street(WHEEL);
        for (int s : new int[] {0, 1, 3, 7, 6, 4}) {
            due("round(" + s + ", 0)", x.round(s, 0), 0);
            due("round(" + s + ", 1)", x.round(s, 1), 6);
        }
        due("round(2, 1)", x.round(2, 1), 2);
        due("round(5, 1)", x.round(5, 1), 2);
        x = street("street 4 1;rule 0 1 0;rule 0 2 1;rule 0 3 2;");
        due("round(1, 0), a note that goes on", x.round(1, 0), 4);
        due("round(1, 1)", x.round(1, 1), 1);
        due("round(8, 0)", x.round(8, 0), 1);
        due("round(0, 0)", x.round(0, 0), 0);
        for (int i : new int[] {-1, 16, MIN, MAX}) due("round(" + i + ", 0)", x.round(i, 0), BAD);
        for (int i : new int[] {-1, 2, MIN, MAX}) due("round(0, " + i + ")", x.round(0, i), BAD);
        due("TODAY stays", x.rule(5), 0);
    }

    private static void days() {
        YesterStreet x = street(EITHER + "rule 0 2;");
        int[] all = {2, 5, 6, 4, 0};
        for (int i = 0; i < 5; i++) due("days(" + i + ")", x.days(i), all[i]);
        x.stop(2, true);
        int[] stopped = {2, 1, 2, 0, 4};
        for (int i = 0; i < 5; i++) due("days(" + i + "), 2 STOPPED", x.days(i), stopped[i]);
        x.home(1, true);
        int[] alone = {1, 1, 1, 1, 6};
        for (int i = 0; i < 5; i++) due("days(" + i + "), 1 at HOME", x.days(i), alone[i]);
        x = street(NEVER);
        due("days(0) of none", x.days(0), 0);
        for (int i = 1; i < 5; i++) due("days(" + i + ") of none", x.days(i), NONE);
        for (int i : new int[] {-1, 5, MIN, MAX}) due("days(" + i + ")", x.days(i), BAD);
        int[] nothing = {1, 0, 0, 0, 7};
        for (int i = 0; i < 5; i++) due("days(" + i + ") of nothing", new YesterStreet().days(i), nothing[i]);
        x = street("street 6 1;rule 0 0 0;rule 0 1 1;rule 0 2 2;rule 0 3 3;rule 0 4 4;rule 0 5 5;");
        int[] every = {64, 0, 63, 0, 0};
        for (int i = 0; i < 5; i++) due("days(" + i + ") of all 64", x.days(i), every[i]);
    }

    private static void firstAndLess() {
        YesterStreet x = new YesterStreet();
        due("first() without RULES", x.first(), NONE);
        due("less() without RULES", x.less(), 0);
        x = street("rule 0 1 1;" + NEVER + "rule 1 0 0;rule 0 2;");
        due("first()", x.first(), 2);
        due("less()", x.less(), 0);
        due("days(1), mended by a later RULE", x.days(1), 5);
        x.cut(2);
        due("less() of two", x.less(), 1);
        x = street("rule 0 1 1;rule 1 2;" + NEVER + "rule 0 2 0;");
        due("first()", x.first(), 3);
        due("less()", x.less(), 2);
        x.home(0, true);
        due("first(), 0 at HOME", x.first(), NONE);
        due("less(), 0 at HOME", x.less(), 0);
        x.home(0, false);
        x.stop(0, true);
        due("first(), 0 STOPPED", x.first(), NONE);
        due("RULES stay", x.rule(2), 4);
        x = street(NEVER + "rule 0 1;");
        due("less() of all", x.less(), 2);
        due("first() by all", street("rule 0 1;rule 1 2;" + NEVER).first(), 3);
    }

    private static void beginsAndPure() {
        YesterStreet x = street("rule 0 0 0;rule 1 1 0;rule 0 2 not 0;rule 1 1 2;");
        due("begins(3): 0 begets itself, 1 is of it", x.begins(3), 0);
        due("begins(6): 2 of nothing, 1 of it", x.begins(6), 6);
        due("begins(2)", x.begins(2), 0);
        due("begins(4)", x.begins(4), 4);
        due("begins(7): 2 is barred", x.begins(7), 0);
        for (int i : new int[] {-1, 8, MIN, MAX}) due("begins(" + i + ")", x.begins(i), BAD);
        due("days(0)", x.days(0), 2);
        due("pure(0)", x.pure(0), 1);
        due("pure(1)", x.pure(1), 6);
        x.stop(2, true);
        due("begins(6), 2 STOPPED", x.begins(6), 0);
        due("pure(1), 2 STOPPED", x.pure(1), 0);
        x.stop(2, false);
        x.home(1, true);
        due("begins(6), 1 at HOME", x.begins(6), 4);
        for (int i : new int[] {-1, 2, MIN, MAX}) due("pure(" + i + ")", x.pure(i), BAD);
        x = street("rule 0 0 0;rule 0 1 1;rule 0 2 2;");
        due("days(0), all", x.days(0), 8);
        due("pure(0), nothing alone", x.pure(0), 1);
        due("pure(1), nothing alone", x.pure(1), 0);
        x = street("rule 0 0 0;rule 0 1 not 0 1;");
        due("days(0), 0 without a beginning", x.days(0), 1);
        due("pure(0) of none", x.pure(0), 0);
        due("pure(1) of none", x.pure(1), NONE);
        x = street("street 6 1;rule 0 0 1;rule 0 1 2;rule 0 2 3;rule 0 3 4;rule 0 4 5;rule 0 5;");
        due("begins(63), one behind another", x.begins(63), 63);
        due("begins(47), one missing", x.begins(47), 32);
        due("pure(1)", x.pure(1), 63);
    }

    private static void wroteAndCould() {
        YesterStreet x = street("street 3 3;rule 0 0 not 1;rule 2 0;rule 1 1 0;rule 1 2 not 0;");
        due("wrote(0, 0)", x.wrote(0, 0), 5);
        due("wrote(2, 0)", x.wrote(2, 0), 4);
        due("wrote(1, 1)", x.wrote(1, 1), 2);
        due("wrote(0, 1)", x.wrote(0, 1), 0);
        due("could(0)", x.could(0), 4);
        due("could(1)", x.could(1), 2);
        due("could(2): only in sets that do not AGREE", x.could(2), 0);
        x.stop(1, true);
        due("wrote(1, 1), STOPPED", x.wrote(1, 1), 2);
        due("could(1), STOPPED", x.could(1), 2);
        due("could(0)", x.could(0), 5);
        x.home(2, true);
        due("wrote(0, 0), 2 at HOME", x.wrote(0, 0), 1);
        for (int i : new int[] {-1, 8, MIN, MAX}) due("wrote(" + i + ", 0)", x.wrote(i, 0), BAD);
        for (int i : new int[] {-1, 3, MIN, MAX}) {
            due("wrote(0, " + i + ")", x.wrote(0, i), BAD);
            due("could(" + i + ")", x.could(i), BAD);
        }
        due("could(0) of none", street(NEVER).could(0), 0);
        due("could(0) of several sets", street("street 2 2;rule 0 0 0 1;rule 1 0 0 not 1;rule 0 1 1;").could(0), 3);
        due("could(0), STOPPED in the empty set", street("rule 1 0;stop 0;").could(0), 2);
    }

    private static void fewest() {
        YesterStreet x = street("street 2 3;rule 0 0;rule 1 0;rule 2 1 0;");
        due("fewest(0, true, 0)", x.fewest(0, true, 0), 0);
        due("fewest(0, true, 1)", x.fewest(0, true, 1), 0);
        due("fewest(0, false, 0)", x.fewest(0, false, 0), 2);
        due("fewest(0, false, 1)", x.fewest(0, false, 1), 3);
        due("fewest(1, false, 0)", x.fewest(1, false, 0), 1);
        due("fewest(1, false, 1)", x.fewest(1, false, 1), 4);
        x.home(0, true);
        due("fewest(0, false, 0), 0 at HOME", x.fewest(0, false, 0), 1);
        due("fewest(0, false, 1), 0 at HOME", x.fewest(0, false, 1), 2);
        x.home(2, true);
        due("fewest(1, true, 0), 2 at HOME", x.fewest(1, true, 0), NONE);
        due("fewest(1, true, 1), 2 at HOME", x.fewest(1, true, 1), NONE);
        due("HOME stays", x.rule(3), 5);
        x = street("street 2 4;rule 0 0 not 0;rule 1 0 not 0;rule 2 0 not 0;rule 3 1;home 3;");
        due("fewest(0, false, 1): some set at all", x.fewest(0, false, 1), 7);
        due("fewest(1, true, 0)", x.fewest(1, true, 0), NONE);
        x = street("street 1 4;rule 1 0 not 0;rule 3 0 0;");
        due("fewest(0, true, 0)", x.fewest(0, true, 0), 0);
        due("fewest(0, false, 1)", x.fewest(0, false, 1), 2);
        // the least of several sets of so many
        x = street("street 1 4;rule 3 0;rule 3 0 0;rule 2 0;home 3;");
        due("fewest(0, false, 1), 3 at HOME", x.fewest(0, false, 1), 4);
        for (int i : new int[] {-1, 1, MIN, MAX}) due("fewest(" + i + ", true, 0)", x.fewest(i, true, 0), BAD);
        for (int i : new int[] {-1, 2, MIN, MAX}) due("fewest(0, true, " + i + ")", x.fewest(0, true, i), BAD);
    }

    private static void police() {
        YesterStreet x = street("street 4 1;rule 0 0 1 2;rule 0 1;rule 0 2;rule 0 3 0;");
        due("police(0, 0)", x.police(0, 0), 1);
        due("police(0, 1): 1 or 2", x.police(0, 1), 2);
        due("police(3, 1): 0", x.police(3, 1), 1);
        due("police(1, 0): of nothing", x.police(1, 0), NONE);
        due("police(1, 1)", x.police(1, 1), NONE);
        x.stop(1, true);
        due("police(1, 0), STOPPED already", x.police(1, 0), 0);
        due("police(1, 1), STOPPED already", x.police(1, 1), 0);
        due("police(0, 0), never in", x.police(0, 0), 0);
        due("STOPPED stays", x.rule(4), 2);
        due("TODAY stays", x.rule(5), 0);
        x = street("street 4 1;rule 0 0 1;rule 0 0 2;rule 0 1;rule 0 2;stop 3;");
        due("police(0, 0): both", x.police(0, 0), 2);
        due("police(0, 1): both", x.police(0, 1), 6);
        x.stop(2, true);
        due("police(0, 1): one more", x.police(0, 1), 2);
        due("police(0, 0), no day at all", street(NEVER).police(0, 0), 0);
        for (int i : new int[] {-1, 4, MIN, MAX}) due("police(" + i + ", 0)", x.police(i, 0), BAD);
        for (int i : new int[] {-1, 2, MIN, MAX}) due("police(0, " + i + ")", x.police(0, i), BAD);
    }

    private static void comesAndRichest() {
        YesterStreet x = street(EITHER + "today 1;worth 0 3;worth 1 3;");
        due("comes()", x.comes(), 2);
        x.write(1, false);
        due("comes(): of several the least", x.comes(), 1);
        x.write(1, true);
        x.write(2, true);
        due("comes()", x.comes(), 2);
        due("TODAY stays", x.rule(5), 6);
        due("comes() of none", street(NEVER).comes(), NONE);
        due("comes(), all at once", street("rule 0 0 1;rule 0 1 0;today 0;today 1;").comes(), 3);
        due("comes(), nothing", street("rule 0 0 1;rule 0 1 0;today 0;today 2;").comes(), 0);
        due("comes(), all six unlike", street("street 6 1;rule 0 0;rule 0 1;rule 0 2;rule 0 3;rule 0 4;rule 0 5;").comes(), 63);
        due("richest(0): of several the least", x.richest(0), 1);
        due("richest(1)", x.richest(1), 103);
        x.pay(1, 4);
        due("richest(0)", x.richest(0), 2);
        due("richest(1)", x.richest(1), 104);
        x.pay(0, -9);
        x.pay(1, -8);
        due("richest(0) below 0", x.richest(0), 2);
        due("richest(1) below 0", x.richest(1), 92);
        for (int i : new int[] {-1, 2, MIN, MAX}) due("richest(" + i + ")", x.richest(i), BAD);
        x = street("rule 0 0 0;debt 0 1;");
        due("richest(0), nothing", x.richest(0), 0);
        due("richest(1), nothing", x.richest(1), 100);
        x = street(NEVER);
        due("richest(0) of none", x.richest(0), NONE);
        due("richest(1) of none", x.richest(1), NONE);
        due("richest(2) of none", x.richest(2), BAD);
        x = street("street 6 1;rule 0 0;rule 0 1;rule 0 2;rule 0 3;rule 0 4;rule 0 5;debt 0 9;debt 1 9;debt 2 9;debt 3 9;debt 4 9;debt 5 9;");
        due("richest(1), the poorest", x.richest(1), 46);
    }

    private static void fraction(String what, long above, long below, long wantAbove, long wantBelow) {
        due(what + ", above", above, wantAbove);
        due(what + ", below", below, wantBelow);
    }

    private static void odds() {
        YesterStreet x = street(EITHER);
        fraction("odds(5, 0)", x.odds(5, 0, 0), x.odds(5, 0, 1), 1, 2);
        fraction("odds(2, 1)", x.odds(2, 1, 0), x.odds(2, 1, 1), 4, 5);
        fraction("odds(0, 0)", x.odds(0, 0, 0), x.odds(0, 0, 1), 1, 1);
        fraction("odds(10, 0)", x.odds(10, 0, 0), x.odds(10, 0, 1), 0, 1);
        fraction("odds(3, 2)", x.odds(3, 2, 0), x.odds(3, 2, 1), 0, 1);
        fraction("none(3)", x.none(3, 0), x.none(3, 1), 0, 1);
        // two days if both stand, else one
        fraction("mean(3)", x.mean(3, 0), x.mean(3, 1), 149, 100);
        fraction("mean(10)", x.mean(10, 0), x.mean(10, 1), 1, 1);
        x.home(0, true);
        fraction("odds(2, 0), 0 at HOME", x.odds(2, 0, 0), x.odds(2, 0, 1), 0, 1);
        x = street(NEVER + "rule 1 0 0;");
        // none AGREES if the first stands and the second fails
        fraction("none(3)", x.none(3, 0), x.none(3, 1), 21, 100);
        fraction("none(0)", x.none(0, 0), x.none(0, 1), 0, 1);
        // both: {0}; the second alone: {} and {0}; neither: {}
        fraction("mean(3)", x.mean(3, 0), x.mean(3, 1), 1, 1);
        fraction("odds(3, 0)", x.odds(3, 0, 0), x.odds(3, 0, 1), 7, 10);
        x = street("rule 0 0;rule 0 0;rule 0 0;rule 0 0;rule 0 0;rule 0 0;rule 0 0;rule 0 0;");
        fraction("odds(1, 0) of eight", x.odds(1, 0, 0), x.odds(1, 0, 1), 99999999, 100000000);
        x = street("street 6 1;rule 0 0 0;rule 0 1 1;rule 0 2 2;rule 0 3 3;rule 0 4 4;rule 0 5 5;rule 0 0 0;rule 0 1 1;");
        fraction("mean(0), all 64", x.mean(0, 0), x.mean(0, 1), 64, 1);
        // 1.9 for each of four, 1.99 for each of two
        fraction("mean(1)", x.mean(1, 0), x.mean(1, 1), 5160841921L, 100000000);
        for (int i : new int[] {-1, 11, MIN, MAX}) {
            due("odds(" + i + ", 0, 0)", x.odds(i, 0, 0), BAD);
            due("none(" + i + ", 0)", x.none(i, 0), BAD);
            due("mean(" + i + ", 0)", x.mean(i, 0), BAD);
        }
        for (int i : new int[] {-1, 2, MIN, MAX}) {
            due("odds(0, 0, " + i + ")", x.odds(0, 0, i), BAD);
            due("none(0, " + i + ")", x.none(0, i), BAD);
            due("mean(0, " + i + ")", x.mean(0, i), BAD);
        }
        for (int i : new int[] {-1, 6, MIN, MAX}) due("odds(0, " + i + ", 0)", x.odds(0, i, 0), BAD);
        x = new YesterStreet();
        fraction("none(5) without RULES", x.none(5, 0), x.none(5, 1), 0, 1);
        fraction("mean(5) without RULES", x.mean(5, 0), x.mean(5, 1), 1, 1);
        x = street(NEVER);
        fraction("none(4) of one", x.none(4, 0), x.none(4, 1), 3, 5);
        fraction("mean(4) of one", x.mean(4, 0), x.mean(4, 1), 2, 5);
        x.stop(0, true);
        fraction("none(4), STOPPED", x.none(4, 0), x.none(4, 1), 0, 1);
    }

    private static void seeAndForget() {
        YesterStreet x = street(EITHER);
        for (int i : new int[] {-1, 3, MIN, MAX}) due("see(" + i + ", true)", x.see(i, true), BAD);
        for (int i = 1; i <= 8; i++) due("see, the " + i + ".", x.see(i == 5 ? 1 : 0, i < 5), i);
        due("see(0, true), the 9.", x.see(0, true), FULL);
        due("see(3, true), the 9.", x.see(3, true), BAD);
        due("count(0)", x.count(0), 8);
        due("fits(0)", x.fits(0), 0);
        due("forget(9)", x.forget(9), BAD);
        due("forget(-1)", x.forget(-1), BAD);
        due("forget(8)", x.forget(8), 8);
        due("forget(5)", x.forget(5), 8);
        due("fits(0): 0 was, 1 was not", x.fits(0), 1);
        due("forget(6)", x.forget(6), BAD);
        due("see(1, true) behind", x.see(1, true), 6);
        due("fits(0): 1 was and was not", x.fits(0), 0);
        due("forget(0)", x.forget(0), 6);
        due("fits(0)", x.fits(0), 2);
        due("days(0)", x.days(0), 2);
    }

    private static void fitsAndAsk() {
        YesterStreet x = street("street 4 1;rule 0 0 0;rule 0 1 1;rule 0 2 0 1;rule 0 3;");
        // {3} {0 3} {1 3} {0 1 2 3}
        int[] all = {4, 8, 8, 0};
        for (int i = 0; i < 4; i++) due("fits(" + i + ")", x.fits(i), all[i]);
        due("ask(0): the first of two", x.ask(0), 0);
        due("ask(1)", x.ask(1), 2);
        x.see(2, false);
        int[] three = {3, 8, 8, 4};
        for (int i = 0; i < 4; i++) due("fits(" + i + "), 2 was not", x.fits(i), three[i]);
        due("ask(0), 2 was not", x.ask(0), 0);
        due("ask(1), 2 was not", x.ask(1), 2);
        x.see(0, false);
        due("ask(0) of {3} {1 3}", x.ask(0), 1);
        due("ask(1) of {3} {1 3}", x.ask(1), 1);
        x.see(1, true);
        int[] one = {1, 10, 10, 5};
        for (int i = 0; i < 4; i++) due("fits(" + i + ") of one", x.fits(i), one[i]);
        due("ask(0) of one", x.ask(0), NONE);
        due("ask(1) of one", x.ask(1), NONE);
        x.see(3, false);
        int[] none = {0, NONE, NONE, NONE};
        for (int i = 0; i < 4; i++) due("fits(" + i + ") of none", x.fits(i), none[i]);
        due("ask(0) of none", x.ask(0), NONE);
        for (int i : new int[] {-1, 4, MIN, MAX}) due("fits(" + i + ")", x.fits(i), BAD);
        YesterStreet six = street("street 6 1;rule 0 5 5;rule 0 0;rule 0 1;rule 0 2;rule 0 3 5;rule 0 4;");
        due("ask(0) of six", six.ask(0), 3);
        due("ask(1) of six", six.ask(1), 1);
        for (int i : new int[] {-1, 2, MIN, MAX}) due("ask(" + i + ")", x.ask(i), BAD);
    }

    private static void drift() {
        YesterStreet x = street("street 6 1;rule 0 0 0;rule 0 1 1;rule 0 2 2;rule 0 3 3;rule 0 4 4;rule 0 5 5;today 0;");
        // the seed 1 becomes 1103527590, bits 16 to 30 of it are 16838: modulo 6 it is 2
        due("drift(1, 1, 0)", x.drift(1, 1, 0), 5);
        due("drift(1, 1, 1)", x.drift(1, 1, 1), 1);
        // then 2524885223: 5758, modulo 6 it is 4
        due("drift(1, 2, 0)", x.drift(1, 2, 0), 21);
        // then 662824084: 10113, modulo 6 it is 3
        due("drift(1, 3, 0)", x.drift(1, 3, 0), 29);
        due("drift(1, 3, 1)", x.drift(1, 3, 1), 3);
        x.stop(2, true);
        due("drift(1, 1, 0), 2 STOPPED", x.drift(1, 1, 0), 1);
        // the seed -1 becomes -1103502900, bits 16 to 30 of it are 15929: modulo 6 it is 5
        due("drift(-1, 1, 0)", x.drift(-1, 1, 0), 33);
        due("TODAY stays", x.rule(5), 1);
        due("DAY stays", x.rule(6), 0);
        for (int i : new int[] {0, 61, -1, MIN, MAX}) due("drift(1, " + i + ", 0)", x.drift(1, i, 0), BAD);
        for (int i : new int[] {-1, 2, MIN, MAX}) due("drift(1, 1, " + i + ")", x.drift(1, 1, i), BAD);
        due("drift(1, 60, 1)", x.drift(1, 60, 1), 60);
        x = street("street 1 1;" + NEVER);
        due("drift(5, 60, 1) of none", x.drift(5, 60, 1), 0);
        // {} with 0 is {0}, brings {}; again
        due("drift(5, 1, 0): 0 comes, so none", x.drift(5, 1, 0), 0);
        x = street("street 1 1;rule 0 0 not 0;today 0;");
        due("drift(5, 1, 0): 0 goes, so it is brought", x.drift(5, 1, 0), 1);
        for (int i = 0; i < 16; i++) x.day(60);
        due("drift late: 0 goes and is brought each time", x.drift(5, 60, 0), 1);
        due("DAY", x.rule(6), 960);
        x = street("street 1 1;stop 0;today 0;");
        due("drift(9, 1, 1) to what AGREES", x.drift(9, 1, 1), 1);
    }

    private static void keepAndBack() {
        YesterStreet x = street(EITHER + "worth 0 7;home 1;stop 2;today 1;");
        x.day(2);
        for (int i : new int[] {-1, 2, MIN, MAX}) {
            due("keep(" + i + ")", x.keep(i), BAD);
            due("back(" + i + ")", x.back(i), BAD);
        }
        due("back(1) of none", x.back(1), STATE);
        due("keep(1)", x.keep(1), 0);
        due("back(0) of none", x.back(0), STATE);
        x.pay(0, -7);
        x.need(1, 2, true);
        x.cut(1);
        x.home(1, false);
        x.home(0, true);
        x.stop(2, false);
        x.stop(0, true);
        x.write(2, true);
        x.day(5);
        x.see(0, true);
        due("keep(0)", x.keep(0), 0);
        due("count(1)", x.count(1), 2);
        due("back(1)", x.back(1), 1);
        int[] was = {3, 2, 2, 2, 4, 1, 2};
        for (int i = 0; i < 7; i++) due("back: rule(" + i + ")", x.rule(i), was[i]);
        int[] law = {1, 1, 0, 1, 0};
        for (int i = 0; i < 5; i++) due("back: law(1, " + i + ")", x.law(1, i), law[i]);
        due("back: worth(0)", x.worth(0), 107);
        due("SEEN stays", x.count(0), 1);
        x.write(0, false);
        x.bar(0, 0, true);
        due("back(1) again, not what came behind", x.back(1), 1);
        due("law(0, 3)", x.law(0, 3), 2);
        due("back(0)", x.back(0), 0);
        int[] other = {3, 2, 1, 1, 1, 0, 7};
        for (int i = 0; i < 7; i++) due("back(0): rule(" + i + ")", x.rule(i), other[i]);
        due("back(0): worth(0)", x.worth(0), 93);
        due("keep(1) over it", x.keep(1), 1);
        due("count(1)", x.count(1), 2);
        due("back(1) is the newer", x.back(1), 0);
        put(x, "stop 9");
        x.text();
        due("IMAGES behind a FAULT", x.count(1), 2);
        x.text();
        due("IMAGES behind a text", x.count(1), 0);
    }

    private static void sheetAndLay() {
        YesterStreet x = new YesterStreet();
        due("sheet(0, 0, -1)", x.sheet(0, 0, -1), -14);
        due("sheet(0, 0, MIN)", x.sheet(0, 0, MIN), -14);
        due("count(3)", x.count(3), NONE);
        due("sheet(0, 0, 41)", x.sheet(0, 0, 41), BAD);
        due("sheet(0, 0, MAX)", x.sheet(0, 0, MAX), BAD);
        for (int i : new int[] {-1, 4, MIN, MAX}) {
            due("sheet(" + i + ", 0, 1)", x.sheet(i, 0, 1), BAD);
            due("sheet(" + i + ", 0, -1)", x.sheet(i, 0, -1), BAD);
            due("lay(" + i + ", 0, 1)", x.lay(i, 0, 1), BAD);
        }
        for (int i : new int[] {-1, 3, MIN, MAX}) {
            due("sheet(0, " + i + ", 1)", x.sheet(0, i, 1), BAD);
            due("sheet(0, " + i + ", -1)", x.sheet(0, i, -1), BAD);
        }
        due("lay(0, 0, 0) on nothing", x.lay(0, 0, 0), -11);
        due("lay(0, 99, 0) on nothing", x.lay(0, 99, 0), -11);
        due("sheet(0, 2, 0)", x.sheet(0, 2, 0), 1);
        due("count(3)", x.count(3), 0);
        due("lay(0, 0, 0) without CELLS", x.lay(0, 0, 0), -12);
        due("sheet(0, 2, 40)", x.sheet(0, 2, 40), 1);
        due("lay(0, 39, 1)", x.lay(0, 39, 1), 1);
        for (int i : new int[] {-1, 40, MIN, MAX}) due("lay(0, " + i + ", 0)", x.lay(0, i, 0), -12);
        due("sheet(0, 2, -5), it stays", x.sheet(0, 2, -5), -14);
        due("count(3)", x.count(3), 40);
        due("read(0, 2, 38, 1): what stayed", x.read(0, 2, 38, 1), 1);
        due("sheet(0, 2, 40), a new one", x.sheet(0, 2, 40), 1);
        x.write(0, true);
        due("read(0, 2, 38, 1): CELLS 0", x.read(0, 2, 38, 1), 1);
        due("TODAY: 0 is not", x.rule(5), 0);
        lowestBits();
    }

    private static void lowestBits() {
        YesterStreet x = new YesterStreet();
        for (int lane = 0; lane < 3; lane++) {
            x.sheet(lane, lane, 2);
            int over = lane == 0 ? 256 : lane == 1 ? 65536 : 0;
            due("lay of a NOTE and more", x.lay(lane, 0, over + 2), 1);
            due("lay of 1 and more", x.lay(lane, 1, 1 - over), 1);
            x.write(2, false);
            due("read of lane " + lane, x.read(lane, lane, 0, 1), 1);
            due("TODAY by lane " + lane, x.rule(5), 4);
            x.lay(lane, 1, -1);
            due("read of -1, lane " + lane, x.read(lane, lane, 0, 1), -20);
            x.lay(lane, 1, 0);
            x.lay(lane, 0, lane == 0 ? 128 : lane == 1 ? 32768 : MIN);
            due("read of a NOTE below 0, lane " + lane, x.read(lane, lane, 0, 1), -20);
        }
        x.sheet(1, 1, 2);
        x.lay(1, 1, 256);
        due("read of 256, SHORTS", x.read(1, 1, 0, 1), -20);
        x.sheet(2, 2, 2);
        x.lay(2, 1, 65536);
        due("read of 65536, INTS", x.read(2, 2, 0, 1), -20);
        x.lay(2, 1, 0);
        x.lay(2, 0, 65536);
        due("read of NOTE 65536, INTS", x.read(2, 2, 0, 1), -20);
    }

    /** Pairs on SHEET k, from CELL f on. */
    private static void pairs(YesterStreet x, int k, int f, int... cells) {
        for (int i = 0; i < cells.length; i++) due("lay", x.lay(k, f + i, cells[i]), 1);
    }

    private static void read() {
        YesterStreet x = new YesterStreet();
        x.sheet(3, 0, 7);
        pairs(x, 3, 0, 0, 1, 1, 1, 0, 0);
        due("read(3, 0, 0, 3)", x.read(3, 0, 0, 3), 3);
        due("TODAY", x.rule(5), 2);
        due("torn()", x.torn(), 0);
        x.write(1, false);
        due("read(3, 0, 0, 4): the last not whole", x.read(3, 0, 0, 4), 3);
        due("torn()", x.torn(), 2);
        due("TODAY", x.rule(5), 2);
        x.write(1, false);
        due("read(3, 0, 0, 20)", x.read(3, 0, 0, 20), 3);
        due("read(3, 0, 2, 1)", x.read(3, 0, 2, 1), 1);
        due("TODAY", x.rule(5), 2);
        due("torn()", x.torn(), 0);
        for (int f : new int[] {-1, -2, 6, 7, 40, MIN, MAX, MAX - 1}) {
            due("read(3, 0, " + f + ", 20)", x.read(3, 0, f, 20), 0);
            due("torn()", x.torn(), 2);
        }
        due("read(3, 1, 0, 1), another lane", x.read(3, 1, 0, 1), 0);
        due("torn()", x.torn(), 3);
        due("read(3, 2, 99, 1), another lane ahead of its CELLS", x.read(3, 2, 99, 1), 0);
        due("torn()", x.torn(), 3);
        due("read(0, 1, 99, 1), nothing ahead of all", x.read(0, 1, 99, 1), 0);
        due("torn()", x.torn(), 1);
        due("read(3, 0, 0, 0)", x.read(3, 0, 0, 0), 0);
        due("torn()", x.torn(), 0);
        for (int i : new int[] {-1, 4, MIN, MAX}) due("read(" + i + ", 0, 0, 1)", x.read(i, 0, 0, 1), BAD);
        for (int i : new int[] {-1, 3, MIN, MAX}) due("read(3, " + i + ", 0, 1)", x.read(3, i, 0, 1), BAD);
        for (int i : new int[] {-1, 21, MIN, MAX}) due("read(3, 0, 0, " + i + ")", x.read(3, 0, 0, i), BAD);
        x.sheet(3, 1, 40);
        due("read(3, 1, 0, 20), all CELLS", x.read(3, 1, 0, 20), 20);
        due("torn()", x.torn(), 0);
    }

    private static void readRefused() {
        YesterStreet x = new YesterStreet();
        x.stop(2, true);
        x.sheet(1, 2, 9);
        pairs(x, 1, 0, 0, 1, 1, 1, 2, 1, 1, 0);
        due("read of a STOPPED one", x.read(1, 2, 0, 4), -22);
        due("none came", x.rule(5), 0);
        pairs(x, 1, 4, 2, 0);
        due("read of a STOPPED one that is not", x.read(1, 2, 0, 4), 4);
        due("TODAY", x.rule(5), 1);
        x.write(0, false);
        pairs(x, 1, 2, 3, 1);
        due("read of a NOTE that there is not", x.read(1, 2, 0, 4), -21);
        pairs(x, 1, 2, -1, 0);
        due("read of a NOTE below 0", x.read(1, 2, 0, 4), -21);
        pairs(x, 1, 2, 1, 2);
        due("read of 2", x.read(1, 2, 0, 4), -21);
        pairs(x, 1, 0, 0, 5);
        due("read, the first met", x.read(1, 2, 0, 4), -20);
        pairs(x, 1, 0, 0, 1, 1, 1, 0, 0, 1, 0, 7);
        due("read: the machine refuses ahead of a NOTE that is not whole", x.read(1, 2, 0, 5), 4);
        due("torn()", x.torn(), 2);
        due("TODAY", x.rule(5), 0);
        pairs(x, 1, 6, 1, 9);
        due("read: refused ahead of what the machine refuses", x.read(1, 2, 0, 5), -23);
        due("TODAY", x.rule(5), 0);
    }

    private static void torn() {
        YesterStreet x = new YesterStreet();
        x.sheet(0, 0, 3);
        x.lay(0, 1, 5);
        due("read(1, 0, 0, 1)", x.read(1, 0, 0, 1), 0);
        due("torn()", x.torn(), 1);
        due("read(9, 0, 0, 1)", x.read(9, 0, 0, 1), BAD);
        due("torn() behind BAD", x.torn(), 1);
        due("read(0, 0, 0, 1)", x.read(0, 0, 0, 1), -20);
        due("torn() behind one that did not come to an end", x.torn(), 1);
        x.text();
        x.lay(0, 3, 0);
        x.sheet(0, 0, -1);
        due("torn() behind other calls", x.torn(), 1);
        due("read(0, 0, 2, 1)", x.read(0, 0, 2, 1), 0);
        due("torn()", x.torn(), 2);
        x.lay(0, 1, 1);
        due("read(0, 0, 0, 1)", x.read(0, 0, 0, 1), 1);
        due("torn()", x.torn(), 0);
    }

    private static void count() {
        YesterStreet x = street("rule 0 0;rule 1 1 0;rule 1 2 not 0;home 0;today 0;today 2;");
        put(x, "abc");
        x.see(1, true);
        x.see(1, true);
        x.keep(1);
        x.sheet(0, 1, 12);
        x.sheet(1, 1, 13);
        int[] counts = {2, 1, 3, 12, 2, 1};
        for (int i = 0; i < 6; i++) due("count(" + i + ")", x.count(i), counts[i]);
        x.home(0, false);
        due("count(5)", x.count(5), 2);
        x.stop(0, true);
        due("count(5): a RULE HOLDS though its NOTE is STOPPED", x.count(5), 2);
        for (int i : new int[] {-1, 6, MIN, MAX}) due("count(" + i + ")", x.count(i), BAD);
    }
}
