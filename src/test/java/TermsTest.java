/** The sentences of "Terms" one by one, each with all the numbers that it bounds and those beside them. */
public final class TermsTest {
    private static final Twins t = new Twins("TermsTest");
    private static final int TAKEN = 0;

    public static void main(String[] args) {
        everyByteAlone();
        everyByteInALine();
        tokensAsLongAsMayBe();
        streetNumbers();
        noteAndOneNumbers();
        worthNumbers();
        numbersTooLong();
        tokensThatCanNotStandThere();
        theEnd();
        toldAlready();
        notToldAlready();
        theNinthRule();
        notesThatThereAreNot();
        oneOfSeveralNotes();
        onesThatThereAreNot();
        theFirstMet();
        holds();
        brings();
        agrees();
        hasABeginning();
        pure();
        fits();
        t.end();
    }

    /** The text alone on a new object: TAKEN and the lines that it has, or a FAULT and its place. */
    private static YesterStreet text(String text, int fault, int number) {
        YesterStreet x = new YesterStreet();
        Twins.put(x, text);
        t.due("text() of '" + text + "'", x.text(), fault == TAKEN ? number : -10 - number);
        t.due("fault() of '" + text + "'", x.fault(), fault);
        return x;
    }

    private static boolean isLetter(int c) {
        return "abcdefghijklmnopqrstuvwxyz".indexOf(c) >= 0;
    }

    private static boolean isFigure(int c) {
        return "0123456789".indexOf(c) >= 0;
    }

    // ---- TOKENS

    private static void everyByteAlone() {
        for (int c = 0; c < 128; c++) {
            String s = "" + (char) c;
            if (c == 32) text(s, TAKEN, 0);
            else if (isLetter(c) || isFigure(c) || c == ';') text(s, 2, 0);
            else text(s, 1, 0);
        }
    }

    private static void everyByteInALine() {
        for (int c = 0; c < 128; c++) {
            String behindName = "stop" + (char) c + "1;", behindNumber = "stop 1" + (char) c + ";", behindAll = "stop 1;" + (char) c;
            if (c == 32) {
                text(behindName, TAKEN, 1);
                text(behindNumber, TAKEN, 1);
                text(behindAll, TAKEN, 1);
            } else if (isLetter(c)) {
                text(behindName, 2, 0);
                text(behindNumber, 2, 6);
                text(behindAll, 2, 7);
            } else if (isFigure(c)) {
                text(behindName, c == '0' ? TAKEN : 3, c == '0' ? 1 : 4);
                text(behindNumber, 3, 5);
                text(behindAll, 2, 7);
            } else if (c == ';') {
                text(behindName, 2, 4);
                text(behindNumber, 2, 7);
                text(behindAll, 2, 7);
            } else {
                text(behindName, 1, 4);
                text(behindNumber, 1, 6);
                text(behindAll, 1, 7);
            }
        }
    }

    private static void tokensAsLongAsMayBe() {
        YesterStreet x = text("street6 4;rule3 5 4not3 2;", TAKEN, 2);
        t.due("NEEDS", x.law(0, 2), 16);
        t.due("BARS", x.law(0, 3), 12);
        text("   stop   1   ;   ", TAKEN, 1);
        text("stop 1;stop 2;", TAKEN, 2);
        text("st op 1;", 2, 0);
        text("stopstop 1;", 2, 0);
        text("stop1;today1;", TAKEN, 2);
        text("rule 0 1 12;", 3, 9);
        text("rule 0 1 0 2;", TAKEN, 1);
        text("street 31;", 3, 7);
        text("street 3 1;", TAKEN, 1);
        text("rule 0 0 notnot 1;", 2, 9);
        text("rule 0 0not1;", TAKEN, 1);
        text("rule 0 0n ot1;", 2, 8);
    }

    private static void numbersTooLong() {
        for (String head : new String[] {"", "stop ", "home ", "street 3 ", "rule 0 0 ", "rule 0 0 not ", "worth 1 "}) {
            text(head + "000;", 1, head.length());
            text(head + "001;", 1, head.length());
            text(head + "100;", 1, head.length());
            text(head + "99999999999999999999;", 1, head.length());
            text(head + "000", 1, head.length());
        }
        text("stop 1 000", 1, 7);
        text("stop 00;", TAKEN, 1);
        text("stop 02;", TAKEN, 1);
    }

    // ---- NUMBERS and their bounds

    private static void streetNumbers() {
        for (int n = 0; n < 100; n++) {
            YesterStreet x = text("street " + n + " 1;", n >= 1 && n <= 6 ? TAKEN : 3, n >= 1 && n <= 6 ? 1 : 7);
            t.due("NOTES by " + n, x.rule(0), n >= 1 && n <= 6 ? n : 3);
            x = text("street 1 " + n + ";", n >= 1 && n <= 4 ? TAKEN : 3, n >= 1 && n <= 4 ? 1 : 9);
            t.due("PEOPLE by " + n, x.rule(1), n >= 1 && n <= 4 ? n : 2);
        }
        for (int n = 1; n <= 6; n++) t.due("0 ahead", text("street 0" + n + " 1;", TAKEN, 1).rule(0), n);
    }

    /** Each place where a line has a NOTE or a ONE; # is its NUMBER. */
    private static final String[] NOTE_PLACES = {"rule 0 #;", "rule 0 0 #;", "rule 0 0 not #;", "worth # 1;", "debt # 1;",
        "stop #;", "today #;"};
    private static final String[] ONE_PLACES = {"rule # 0;", "home #;"};

    private static void noteAndOneNumbers() {
        String street = "street 6 4;";
        for (int n = 0; n < 100; n++) {
            for (String place : NOTE_PLACES) {
                int at = street.length() + place.indexOf('#');
                text(street + place.replace("#", "" + n), n <= 5 ? TAKEN : 3, n <= 5 ? 2 : at);
            }
            for (String place : ONE_PLACES) {
                int at = street.length() + place.indexOf('#');
                text(street + place.replace("#", "" + n), n <= 3 ? TAKEN : 3, n <= 3 ? 2 : at);
            }
        }
        YesterStreet x = text("rule 1 2 0 not 1;", TAKEN, 1);
        int[] law = {1, 2, 1, 2};
        for (int i = 0; i < 4; i++) t.due("law(0, " + i + ")", x.law(0, i), law[i]);
    }

    private static void worthNumbers() {
        for (int v = 0; v < 100; v++) {
            YesterStreet x = text("worth 2 " + v + ";", v <= 9 ? TAKEN : 3, v <= 9 ? 1 : 8);
            t.due("worth " + v, x.worth(2), v <= 9 ? 100 + v : 100);
            x = text("debt 2 " + v + ";", v <= 9 ? TAKEN : 3, v <= 9 ? 1 : 7);
            t.due("debt " + v, x.worth(2), v <= 9 ? 100 - v : 100);
        }
    }

    // ---- FAULT 2

    private static void tokensThatCanNotStandThere() {
        String[] names = {"x", "not", "stop", "rule", "street", "worth", "debt", "home", "today"};
        // where a NUMBER has to stand
        for (String head : new String[] {"street ", "street 1 ", "rule ", "rule 0 ", "rule 0 0 not ", "worth ", "worth 0 ", "debt ",
            "debt 0 ", "home ", "stop ", "today "}) {
            for (String name : names) text(head + name + " 1;", 2, head.length());
            text(head + ";", 2, head.length());
        }
        // where ; has to stand
        for (String head : new String[] {"street 3 2 ", "worth 0 1 ", "debt 0 1 ", "home 0 ", "stop 0 ", "today 0 "}) {
            for (String name : names) text(head + name + ";", 2, head.length());
            text(head + "1;", 2, head.length());
            text(head + "99;", 2, head.length());
            text(head + ";", TAKEN, 1);
        }
        // where a NUMBER, not or ; may stand
        for (String head : new String[] {"rule 0 0 ", "rule 0 0 1 "}) {
            for (String name : names) {
                if (!name.equals("not")) text(head + name + ";", 2, head.length());
            }
            text(head + "not 2;", TAKEN, 1);
            text(head + "2;", TAKEN, 1);
            text(head + ";", TAKEN, 1);
        }
        // behind not and a NUMBER: a NUMBER or ;
        for (String name : names) text("rule 0 0 not 1 " + name + " 2;", 2, 15);
        text("rule 0 0 not 1 2;", TAKEN, 1);
        text("rule 0 0 not 1;", TAKEN, 1);
        // each letter of a NAME counts
        for (String name : new String[] {"street", "rule", "worth", "debt", "home", "stop", "today"}) {
            for (int i = 0; i < name.length(); i++) text(name.substring(0, i) + "z" + name.substring(i + 1) + " 0 0;", 2, 0);
        }
        for (String name : new String[] {"zot", "nzt", "noz", "no", "nott"}) text("rule 0 0 " + name + " 1;", 2, 9);
        // where a line begins
        for (String name : new String[] {"x", "not", "stops", "sto", "rules", "rul", "streets", "stree", "worths", "debts", "homes", "todays"}) {
            text(name + " 0 0;", 2, 0);
            text("stop 1;" + name + " 0 0;", 2, 7);
        }
        text("1;", 2, 0);
        text(";", 2, 0);
        text("stop 1;;", 2, 7);
        text("stop 1;1;", 2, 7);
    }

    private static void theEnd() {
        String[] lines = {"street 3 2;", "rule 0 0 1 2;", "rule 0 0 not 1 2;", "rule 0 0 1 not 2;", "worth 0 9;", "debt 0 9;", "home 0;", "stop 0;", "today 0;"};
        String[] names = {"street", "rule", "rule", "rule", "worth", "debt", "home", "stop", "today"};
        for (int i = 0; i < lines.length; i++) {
            for (int n = names[i].length(); n < lines[i].length(); n++) {
                String part = lines[i].substring(0, n);
                // within not the NAME is another
                boolean within = part.endsWith(" n") || part.endsWith(" no");
                text(part, 2, within ? part.lastIndexOf('n') : n);
                if (!within) text(part + "  ", 2, n + 2);
                text("stop 1;" + part, 2, 7 + (within ? part.lastIndexOf('n') : n));
            }
            text(lines[i], TAKEN, 1);
        }
    }

    // ---- FAULTS 4 and 5

    private static void toldAlready() {
        text("street 3 2;street 3 2;", 4, 11);
        text("street 3 2;stop 0;street 3 2;", 4, 18);
        text("street 3 2;street", 4, 11);
        for (int n = 0; n < 3; n++) {
            text("rule 0 0 " + n + " " + n + ";", 4, 11);
            text("rule 0 0 " + n + " 0" + n + ";", 4, 11);
            text("rule 0 0 not " + n + " " + n + ";", 4, 15);
            text("rule 0 0 " + n + " not " + n + ";", 4, 15);
            for (String first : new String[] {"worth ", "debt "}) {
                for (String second : new String[] {"worth ", "debt "}) {
                    String head = first + n + " 0;" + second;
                    text(head + n + " 0;", 4, head.length());
                }
            }
            text("stop " + n + ";stop " + n + ";", 4, 12);
            text("today " + n + ";today " + n + ";", 4, 14);
        }
        for (int p = 0; p < 2; p++) text("home " + p + ";home " + p + ";", 4, 12);
        text("worth 1 2;worth 0 2;debt 1 2;", 4, 25);
        text("debt 0 2;worth 1 2;worth 2 2;worth 0 2;", 4, 35);
        text("today 0;today 1;today 2;today 0;", 4, 30);
        text("rule 0 0 0 1 2 0;", 4, 15);
        text("rule 0 0 0 1 not 2 1;", 4, 19);
        text("stop 0;stop 1;stop 2;stop 0;", 4, 26);
        text("home 0;home 1;home 0;", 4, 19);
    }

    private static void notToldAlready() {
        text("rule 0 0 0;", TAKEN, 1);
        text("rule 0 0 not 0;", TAKEN, 1);
        text("rule 0 0 1;rule 0 0 1;", TAKEN, 2);
        text("rule 0 0 1 not 2;rule 0 0 2 not 1;", TAKEN, 2);
        YesterStreet x = text("worth 1 1;stop 1;today 1;home 1;rule 1 1 1;", TAKEN, 5);
        t.due("STOPPED", x.rule(4), 2);
        t.due("TODAY", x.rule(5), 2);
        t.due("HOME", x.rule(3), 2);
        // what a text told is not told already for the next
        for (int i = 0; i < 2; i++) {
            Twins.put(x, "street 3 2;worth 1 1;stop 1;today 1;home 1;");
            t.due("text() again", x.text(), 5);
        }
        // nor what a text told that was not taken
        Twins.put(x, "street 3 2;worth 1 1;stop 1;today 1;home 1;x");
        x.text();
        Twins.put(x, "street 3 2;worth 1 1;stop 1;today 1;home 1;");
        t.due("text() behind a FAULT", x.text(), 5);
    }

    private static void theNinthRule() {
        String eight = "rule 0 0;".repeat(8);
        text(eight, TAKEN, 8);
        text(eight + "rule 0 0;", 5, 72);
        text(eight + "stop 0;rule 0 0;", 5, 79);
        text(eight + "rule", 5, 72);
        text(eight + "rule x", 5, 72);
        text(eight + "rules 0 0;", 2, 72);
        text(eight + "stop 0;", TAKEN, 9);
        text("rule 0 0;".repeat(7) + "rule 0 9;", 3, 70);
        YesterStreet x = text("rule 0 1;rule 1 0;rule 1 2;", TAKEN, 3);
        for (int k = 0; k < 3; k++) t.due("by order: " + k, x.law(k, 1), new int[] {1, 0, 2}[k]);
    }

    // ---- FAULTS 6 and 7

    private static void notesThatThereAreNot() {
        for (int notes = 1; notes <= 6; notes++) {
            for (int n = 0; n < 6; n++) {
                for (String place : NOTE_PLACES) {
                    // the RULE's own NOTE is 0, which there is always
                    String line = place.replace("#", "" + n), street = "street " + notes + " 4;";
                    int length = line.length() + street.length();
                    text(street + line, n < notes ? TAKEN : 6, n < notes ? 2 : length);
                    text(line + street, n < notes ? TAKEN : 6, n < notes ? 2 : length);
                    text(line + street + "  ", n < notes ? TAKEN : 6, n < notes ? 2 : length + 2);
                }
            }
        }
        for (int n = 0; n < 6; n++) {
            for (String place : NOTE_PLACES) {
                String line = place.replace("#", "" + n);
                text(line, n < 3 ? TAKEN : 6, n < 3 ? 1 : line.length());
            }
        }
    }

    private static void oneOfSeveralNotes() {
        text("stop 3;stop 0;", 6, 14);
        text("stop 0;stop 3;", 6, 14);
        text("rule 0 0 3 1;", 6, 13);
        text("rule 0 0 1 not 3 2;", 6, 19);
        text("rule 0 3 1 not 2;", 6, 17);
        text("worth 5 0;today 0;rule 1 1 1;", 6, 29);
    }

    private static void onesThatThereAreNot() {
        for (int people = 1; people <= 4; people++) {
            for (int p = 0; p < 4; p++) {
                for (String place : ONE_PLACES) {
                    String line = place.replace("#", "" + p), street = "street 1 " + people + ";";
                    int length = line.length() + street.length();
                    text(street + line, p < people ? TAKEN : 7, p < people ? 2 : length);
                    text(line + street, p < people ? TAKEN : 7, p < people ? 2 : length);
                }
            }
        }
        for (int p = 0; p < 4; p++) {
            for (String place : ONE_PLACES) {
                String line = place.replace("#", "" + p);
                text(line, p < 2 ? TAKEN : 7, p < 2 ? 1 : line.length());
            }
        }
        text("home 2;home 0;", 7, 14);
        text("home 3;rule 0 0;rule 1 1;", 7, 25);
        text("home 3;stop 5;", 6, 14);
        text("rule 3 5;", 6, 9);
        text("rule 3 0;street 3 4;", TAKEN, 2);
    }

    private static void theFirstMet() {
        // each FAULT ahead of each that would come behind it
        String[] faults = {"?", "x", "stop 9;", "stop 1;stop 1;", "rule 0 0;".repeat(9)};
        int[] places = {0, 0, 5, 12, 72};
        for (int i = 0; i < faults.length; i++) {
            for (int k = 0; k < faults.length; k++) {
                // a NAME would go on into the next one
                if (faults[i].length() + 1 + faults[k].length() <= 160) text(faults[i] + " " + faults[k], i + 1, places[i]);
            }
        }
        for (int i = 0; i < faults.length; i++) text("today 5;home 3;" + faults[i], i + 1, 15 + places[i]);
        // a TOKEN is read when the one before has been taken
        text("stop 9?", 3, 5);
        text("stop 1;stop 1?", 4, 12);
        text("stop x?", 2, 5);
        text("stop 1?9", 1, 6);
        text("stop 6 000", 3, 5);
        text("street 3 2;street?", 4, 11);
        text("x?", 2, 0);
        // out of its bounds ahead of told already: 6 can not be told
        text("stop 5;stop 6;", 3, 12);
        text("worth 1 1;worth 1 10;", 4, 16);
        text("worth 1 1;worth 0 10;", 3, 18);
        text("rule 4 6;", 3, 5);
        text("rule 3 6;", 3, 7);
        text("street 7 5;", 3, 7);
        text("street 6 5;", 3, 9);
    }

    // ---- HOLDS, BRINGS, AGREES

    private static void holds() {
        // each NOTE of three is needed, barred or neither
        for (int code = 0; code < 27; code++) {
            int needs = 0, bars = 0;
            for (int n = 0, rest = code; n < 3; n++, rest /= 3) {
                if (rest % 3 == 1) needs |= 1 << n;
                if (rest % 3 == 2) bars |= 1 << n;
            }
            YesterStreet x = text("rule 1 2;rule 0 0;", TAKEN, 2);
            for (int n = 0; n < 3; n++) {
                if ((needs >> n & 1) == 1) x.need(0, n, true);
                if ((bars >> n & 1) == 1) x.bar(0, n, true);
            }
            for (int set = 0; set < 8; set++) {
                for (int n = 0; n < 3; n++) x.write(n, (set >> n & 1) == 1);
                boolean holds = (set & needs) == needs && (set & bars) == 0;
                String name = "NEEDS " + needs + ", BARS " + bars + ", set " + set;
                t.due(name + ": law", x.law(0, 4), holds ? 1 : 0);
                t.due(name + ": count", x.count(5), holds ? 2 : 1);
                t.due(name + ": brings", x.brings(set), holds ? 5 : 1);
                t.due(name + ": wrote", x.wrote(set, 2), holds ? 2 : 0);
                x.home(1, true);
                t.due(name + ": law, he being at HOME", x.law(0, 4), 0);
                t.due(name + ": brings, he being at HOME", x.brings(set), 1);
                t.due(name + ": wrote, he being at HOME", x.wrote(set, 2), 0);
                x.home(1, false);
            }
        }
    }

    private static void brings() {
        YesterStreet x = text("street6 4;rule0 0;rule1 0;rule2 5not5;rule3 4 0;", TAKEN, 5);
        t.due("brings(0): a NOTE by two is one", x.brings(0), 33);
        t.due("brings(1)", x.brings(1), 49);
        t.due("brings(33)", x.brings(33), 17);
        x.home(0, true);
        t.due("brings(33), the other writes it", x.brings(33), 17);
        x.home(1, true);
        t.due("brings(33), both at HOME", x.brings(33), 16);
        x.stop(4, true);
        t.due("brings(33), 4 STOPPED", x.brings(33), 0);
        t.due("law: a RULE whose NOTE is STOPPED HOLDS", x.wrote(33, 4), 8);
        t.due("brings(16): a STOPPED NOTE of a set is as any", x.brings(16), 32);
        x = text("rule 0 1 0;stop 0;", TAKEN, 2);
        t.due("brings(1): a STOPPED NOTE is needed", x.brings(1), 2);
    }

    private static void agrees() {
        YesterStreet x = text("street1 1;rule0 0 0;", TAKEN, 2);
        t.due("{} and {0}", x.days(0), 2);
        x.stop(0, true);
        t.due("{} alone, STOPPED", x.days(0), 1);
        t.due("the greatest, STOPPED", x.days(2), 0);
        x = text("street1 1;rule0 0;", TAKEN, 2);
        t.due("{0} alone", x.days(0), 1);
        t.due("the least", x.days(1), 1);
        x.bar(0, 0, true);
        t.due("none", x.days(0), 0);
        x.home(0, true);
        t.due("{} alone, he being at HOME", x.days(0), 1);
        // exactly what it BRINGS, no NOTE more, none less
        x = text("rule 0 0 1;rule 0 1 0;rule 0 2 0 1;", TAKEN, 3);
        t.due("{} and {0 1 2}", x.days(0), 2);
        for (int set = 0; set < 8; set++) t.due("brings(" + set + ") is it", x.brings(set) == set ? 1 : 0, set == 0 || set == 7 ? 1 : 0);
        t.due("a new street: {} alone", new YesterStreet().days(2), 0);
    }

    // ---- HAS A BEGINNING, PURE

    private static void hasABeginning() {
        YesterStreet x = text("rule 0 0;rule 0 1 0;rule 0 2 2;", TAKEN, 3);
        t.due("begins(0): not of the set", x.begins(0), 0);
        t.due("begins(1)", x.begins(1), 1);
        t.due("begins(2): the NEED is not there", x.begins(2), 0);
        t.due("begins(3)", x.begins(3), 3);
        t.due("begins(4): by itself", x.begins(4), 0);
        t.due("begins(7)", x.begins(7), 3);
        x.stop(0, true);
        t.due("begins(7), 0 STOPPED", x.begins(7), 0);
        x.stop(0, false);
        x.stop(1, true);
        t.due("begins(7), 1 STOPPED", x.begins(7), 1);
        x.stop(1, false);
        x.bar(0, 2, true);
        t.due("begins(3), 0 by what is not there", x.begins(3), 3);
        t.due("begins(7), its RULE does not HOLD", x.begins(7), 0);
        x.home(0, true);
        t.due("begins(3), he being at HOME", x.begins(3), 0);
        x = text("rule 0 0 1;rule 0 1 0;", TAKEN, 2);
        t.due("begins(3): each by the other", x.begins(3), 0);
        x = text("rule 0 0 1;rule 0 1 0;rule 1 1;", TAKEN, 3);
        t.due("begins(3): by another RULE", x.begins(3), 3);
        x = text("rule 0 2 0 1;rule 0 0;rule 0 1 1;", TAKEN, 3);
        t.due("begins(7): all NEEDS, not some", x.begins(7), 1);
        x = text("rule 0 2 0 1;rule 0 0;rule 0 1;", TAKEN, 3);
        t.due("begins(7): RULES in any order", x.begins(7), 7);
        x = text("rule 0 0 0;rule 0 0;", TAKEN, 2);
        t.due("begins(1): it NEEDS itself, but not by each RULE", x.begins(1), 1);
    }

    private static void pure() {
        YesterStreet x = text("rule 0 0;", TAKEN, 1);
        t.due("pure(0): {0}, not {} that does not AGREE", x.pure(0), 1);
        t.due("pure(1)", x.pure(1), 1);
        x = text("rule 0 0 0;rule 0 1;", TAKEN, 2);
        t.due("days(0)", x.days(0), 2);
        t.due("pure(0): not {0 1}, 0 has none", x.pure(0), 1);
        t.due("pure(1)", x.pure(1), 2);
        x.need(0, 0, false);
        t.due("pure(1): {0 1}", x.pure(1), 3);
    }

    // ---- SEEN, FITS

    private static void fits() {
        YesterStreet x = text("rule 0 0 0;rule 0 1 1;", TAKEN, 2);
        t.due("fits(0), nothing SEEN", x.fits(0), 4);
        x.see(0, true);
        t.due("fits(0), 0 was", x.fits(0), 2);
        t.due("fits(2): in all", x.fits(2), 1);
        t.due("fits(3): in none", x.fits(3), 4);
        x.see(0, false);
        t.due("fits(0), 0 was and was not", x.fits(0), 0);
        x.forget(0);
        x.see(2, true);
        t.due("fits(0): SEEN what no day has", x.fits(0), 0);
        x.forget(0);
        x.see(2, false);
        t.due("fits(0): SEEN what no day has not", x.fits(0), 4);
        x.cut(0);
        t.due("fits(0): it has to AGREE", x.fits(0), 1);
    }
}
