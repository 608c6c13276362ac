import java.util.Random;

/** Runs by fixed seeds: every answer of the class is held against that of Model. */
public final class ModelTest {
    private static final int RUNS = 1500, CALLS = 512;
    private final Random random;
    private final int run;
    private YesterStreet x;
    private Model m;
    private int calls;
    private StringBuilder story = new StringBuilder();
    static int wrong = 0;

    private ModelTest(int run) {
        this.run = run;
        random = new Random(77000 + run);
    }

    public static void main(String[] args) {
        for (int run = 0; run < RUNS && wrong < 5; run++) new ModelTest(run).go();
        System.out.println(wrong == 0 ? "ModelTest: all answers are as due" : "ModelTest: " + wrong + " wrong");
        if (wrong != 0) System.exit(1);
    }

    private void go() {
        x = new YesterStreet();
        m = new Model();
        int before = wrong;
        if (random.nextInt(10) > 0) tell(goodText());
        while (calls < CALLS && wrong == before) step();
    }

    private void due(String call, long got, long want) {
        calls++;
        story.append(call).append(' ');
        if (got == want) return;
        wrong++;
        System.out.println("run " + run + ": " + call + " answered " + got + ", due is " + want + " behind " + story);
    }

    private int pick(int n) { return random.nextInt(n); }

    /** Mostly 0 to most, now and then one beside it or far away. */
    private int near(int most) {
        int r = pick(40);
        if (r == 0) return -1;
        if (r == 1) return most + 1;
        if (r == 2) return pick(4) == 0 ? Integer.MIN_VALUE : pick(2) == 0 ? Integer.MAX_VALUE : random.nextInt();
        return most < 0 ? 0 : pick(most + 1);
    }

    private int aNote() { return near(m.w.notes - 1); }
    private int aRule() { return near(m.w.laws.size() - 1); }
    private int aSet() { return near((1 << m.w.notes) - 1); }
    private boolean aFlag() { return random.nextBoolean(); }

    private String goodText() {
        int notes = 1 + pick(6), people = 1 + pick(4), style = pick(3);
        StringBuilder t = new StringBuilder();
        if (pick(6) == 0) {
            notes = 3;
            people = 2;
        } else {
            t.append("street ").append(notes).append(' ').append(people).append(';');
        }
        int rules = pick(9);
        for (int k = 0; k < rules; k++) {
            t.append("rule ").append(pick(people)).append(' ').append(pick(notes));
            int used = 0;
            StringBuilder bars = new StringBuilder();
            for (int i = pick(style + 2); i > 0; i--) {
                int n = pick(notes);
                if ((used >> n & 1) == 1) continue;
                used |= 1 << n;
                if (pick(3) == 0) bars.append(' ').append(n);
                else t.append(' ').append(n);
            }
            if (bars.length() > 0) t.append(" not").append(bars);
            t.append(';');
        }
        String[] names = {"worth", "debt", "home", "stop", "today"};
        int told = 0;
        for (int i = pick(6); i > 0; i--) {
            int kind = pick(5), n = pick(kind == 2 ? people : notes), mark = (kind == 1 ? 0 : kind) * 6 + n;
            if ((told >> mark & 1) == 1) continue;
            told |= 1 << mark;
            t.append(names[kind]).append(' ').append(n);
            if (kind < 2) t.append(' ').append(pick(10));
            t.append(';');
        }
        if (t.length() > 160) t.setLength(t.lastIndexOf(";", 159) + 1);
        return t.toString();
    }

    private String spoilt(String good) {
        StringBuilder t = new StringBuilder(good);
        String[] bits = {"not", "street", "rule", "home", "stop", "today", "worth", "debt", ";", " ", "0", "1", "2",
            "3", "4", "5", "6", "7", "9", "10", "07", "123", "A", "x", "{", "stop 1;", "today 1;", "street 2 1;", "/",
            ":", "`", "-", ".", "\t", "rule 0 0;", "home 0;", "worth 1 5;", "home 3;", "stop 5;"};
        for (int i = 1 + pick(3); i > 0; i--) {
            int at = pick(t.length() + 1);
            int how = pick(4);
            if (how == 0 && t.length() > 0) t.delete(Math.min(at, t.length() - 1), Math.min(t.length(), at + 1 + pick(4)));
            else if (how == 1) t.setLength(at);
            else if (how == 2) t.append(bits[pick(bits.length)]);
            else t.insert(at, bits[pick(bits.length)]);
        }
        return t.toString();
    }

    private void tell(String t) {
        for (int i = 0; i < t.length() && calls < CALLS - 5; i++) {
            due("feed(" + (int) t.charAt(i) + ")", x.feed(t.charAt(i)), m.feed(t.charAt(i)));
        }
        due("text()", x.text(), m.text());
        due("fault()", x.fault(), m.fault());
        state();
    }

    private void state() {
        for (int i = -1; i <= 7; i++) due("rule(" + i + ")", x.rule(i), m.rule(i));
        for (int i = 0; i < m.w.notes; i++) due("worth(" + i + ")", x.worth(i), m.worth(i));
        for (int k = 0; k < m.w.laws.size(); k++) {
            for (int i = 0; i < 5; i++) due("law(" + k + ", " + i + ")", x.law(k, i), m.law(k, i));
        }
        for (int i = 0; i < 6; i++) due("count(" + i + ")", x.count(i), m.count(i));
    }

    private void step() {
        int r = pick(120);
        if (r == 0) tell(goodText());
        else if (r < 3) tell(spoilt(goodText()));
        else if (r == 3) state();
        else if (r < 30) change();
        else if (r < 90) query();
        else sheets();
    }

    private void change() {
        int a = aNote(), k = aRule(), n;
        boolean is = aFlag();
        switch (pick(14)) {
            case 0 -> { n = pick(3) == 0 ? near(127) : near(m.tape.length()); due("end(" + n + ")", x.end(n), m.end(n)); }
            case 1 -> due("write(" + a + ", " + is + ")", x.write(a, is), m.write(a, is));
            case 2 -> { n = near(m.w.people - 1); due("home(" + n + ", " + is + ")", x.home(n, is), m.home(n, is)); }
            case 3 -> due("stop(" + a + ", " + is + ")", x.stop(a, is), m.stop(a, is));
            case 4, 5 -> due("need(" + k + ", " + a + ", " + is + ")", x.need(k, a, is), m.need(k, a, is));
            case 6, 7 -> due("bar(" + k + ", " + a + ", " + is + ")", x.bar(k, a, is), m.bar(k, a, is));
            case 8 -> { n = near(18) - 9; due("pay(" + a + ", " + n + ")", x.pay(a, n), m.pay(a, n)); }
            case 9 -> {
                n = pick(4) == 0 ? near(m.w.laws.size()) : m.w.laws.size();
                due("cut(" + n + ")", x.cut(n), m.cut(n));
            }
            case 10 -> { n = near(60); due("day(" + n + ")", x.day(n), m.day(n)); }
            case 11 -> { n = near(1); due("keep(" + n + ")", x.keep(n), m.keep(n)); }
            case 12 -> { n = near(1); due("back(" + n + ")", x.back(n), m.back(n)); }
            default -> { n = near(127); due("feed(" + n + ")", x.feed(n), m.feed(n)); }
        }
    }

    private void query() {
        int a = aNote(), s = aSet(), w = near(1), v = near(10), n;
        boolean is = aFlag();
        switch (pick(22)) {
            case 0 -> due("brings(" + s + ")", x.brings(s), m.brings(s));
            case 1 -> due("round(" + s + ", " + w + ")", x.round(s, w), m.round(s, w));
            case 2 -> { n = near(4); due("days(" + n + ")", x.days(n), m.days(n)); }
            case 3 -> due("first()", x.first(), m.first());
            case 4 -> due("less()", x.less(), m.less());
            case 5 -> due("begins(" + s + ")", x.begins(s), m.begins(s));
            case 6 -> due("pure(" + w + ")", x.pure(w), m.pure(w));
            case 7 -> due("wrote(" + s + ", " + a + ")", x.wrote(s, a), m.wrote(s, a));
            case 8 -> due("could(" + a + ")", x.could(a), m.could(a));
            case 9 -> due("fewest(" + a + ", " + is + ", " + w + ")", x.fewest(a, is, w), m.fewest(a, is, w));
            case 10 -> due("police(" + a + ", " + w + ")", x.police(a, w), m.police(a, w));
            case 11 -> due("comes()", x.comes(), m.comes());
            case 12 -> due("richest(" + w + ")", x.richest(w), m.richest(w));
            case 13 -> {
                // the model's odds are dear
                if (pick(8) == 0) due("odds(" + v + ", " + a + ", " + w + ")", x.odds(v, a, w), m.odds(v, a, w));
                if (pick(8) == 0) due("none(" + v + ", " + w + ")", x.none(v, w), m.none(v, w));
                if (pick(8) == 0) due("mean(" + v + ", " + w + ")", x.mean(v, w), m.mean(v, w));
            }
            case 14 -> due("see(" + a + ", " + is + ")", x.see(a, is), m.see(a, is));
            case 15 -> { n = near(m.seen.size()); due("forget(" + n + ")", x.forget(n), m.forget(n)); }
            case 16, 17 -> { n = near(3); due("fits(" + n + ")", x.fits(n), m.fits(n)); }
            case 18, 19 -> due("ask(" + w + ")", x.ask(w), m.ask(w));
            default -> {
                int seed = random.nextInt();
                n = near(60);
                due("drift(" + seed + ", " + n + ", " + w + ")", x.drift(seed, n, w), m.drift(seed, n, w));
            }
        }
    }

    private void sheets() {
        int k = pick(3) == 0 ? near(3) : pick(2), lane = pick(2) == 0 ? near(2) : k == 0 ? 0 : 1, n;
        switch (pick(8)) {
            case 0 -> { n = near(40); due("sheet(" + k + ", " + lane + ", " + n + ")", x.sheet(k, lane, n), m.sheet(k, lane, n)); }
            case 1, 2, 3 -> {
                int pairs = 1 + pick(4);
                for (int i = 0; i < pairs; i++) {
                    lay(k, 2 * i, pick(12) == 0 ? random.nextInt() : aNote());
                    lay(k, 2 * i + 1, near(1));
                }
            }
            case 4 -> lay(k, near(39), random.nextInt() >> pick(32));
            default -> {
                int f = pick(2) == 0 ? 0 : near(39);
                n = pick(3) == 0 ? near(20) : pick(5);
                due("read(" + k + ", " + lane + ", " + f + ", " + n + ")", x.read(k, lane, f, n), m.read(k, lane, f, n));
                due("torn()", x.torn(), m.torn());
                due("rule(5)", x.rule(5), m.rule(5));
            }
        }
    }

    private void lay(int k, int i, int v) {
        due("lay(" + k + ", " + i + ", " + v + ")", x.lay(k, i, v), m.lay(k, i, v));
    }
}
