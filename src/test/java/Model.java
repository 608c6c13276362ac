import java.math.BigInteger;
import java.util.ArrayList;
import java.util.Arrays;
import java.util.HashMap;
import java.util.HashSet;
import java.util.List;
import java.util.Map;
import java.util.Set;
import java.util.TreeSet;

/**
 * The document once more, in its plainest form and by other means than the class (sets of
 * Integers, walks over every set, exceptions for faults), to hold the class against.
 */
final class Model {
    static final int BAD = -1, STATE = -2, FULL = -3, NONE = -4;

    static final class Law {
        int one, note;
        Set<Integer> needs = new TreeSet<>(), bars = new TreeSet<>();

        Law copy() {
            Law l = new Law();
            l.one = one;
            l.note = note;
            l.needs.addAll(needs);
            l.bars.addAll(bars);
            return l;
        }
    }

    static final class World {
        int notes = 3, people = 2, date = 0;
        Map<Integer, Integer> worth = new HashMap<>();
        List<Law> laws = new ArrayList<>();
        Set<Integer> home = new TreeSet<>(), stopped = new TreeSet<>(), today = new TreeSet<>();

        World copy() {
            World w = new World();
            w.notes = notes;
            w.people = people;
            w.date = date;
            w.worth.putAll(worth);
            for (Law l : laws) w.laws.add(l.copy());
            w.home.addAll(home);
            w.stopped.addAll(stopped);
            w.today.addAll(today);
            return w;
        }
    }

    static final class Fault extends Exception {
        final int number, place;

        Fault(int number, int place) {
            this.number = number;
            this.place = place;
        }
    }

    World w = new World();
    World[] images = new World[2];
    StringBuilder tape = new StringBuilder();
    int fault = 0, torn = 0;
    List<int[]> seen = new ArrayList<>();
    int[][] cells = new int[4][];
    int[] lanes = new int[4];

    static int bits(Set<Integer> s) {
        int b = 0;
        for (int i : s) b += 1 << i;
        return b;
    }

    static Set<Integer> set(int bits) {
        Set<Integer> s = new TreeSet<>();
        for (int i = 0; i < 31; i++) if ((bits / (1 << i)) % 2 == 1) s.add(i);
        return s;
    }

    boolean note(int n) { return 0 <= n && n < w.notes; }
    boolean isSet(int s) { return 0 <= s && s < Math.pow(2, w.notes); }
    static int flag(boolean b) { return b ? 1 : 0; }

    // ---- terms

    static boolean holds(World w, Law l, Set<Integer> s) {
        if (w.home.contains(l.one)) return false;
        for (int n : l.needs) if (!s.contains(n)) return false;
        for (int n : l.bars) if (s.contains(n)) return false;
        return true;
    }

    static Set<Integer> brings(World w, Set<Integer> s) {
        Set<Integer> r = new TreeSet<>();
        for (Law l : w.laws) if (holds(w, l, s)) r.add(l.note);
        r.removeAll(w.stopped);
        return r;
    }

    static List<Set<Integer>> agreeing(World w) {
        List<Set<Integer>> all = new ArrayList<>();
        for (int b = 0; b < 1 << w.notes; b++) {
            Set<Integer> s = set(b);
            if (brings(w, s).equals(s)) all.add(s);
        }
        return all;
    }

    static Set<Integer> begin(World w, Set<Integer> s) {
        Set<Integer> begun = new TreeSet<>();
        boolean more = true;
        while (more) {
            more = false;
            for (int n : s) {
                if (begun.contains(n) || w.stopped.contains(n)) continue;
                for (Law l : w.laws) {
                    if (l.note == n && holds(w, l, s) && begun.containsAll(l.needs)) {
                        begun.add(n);
                        more = true;
                        break;
                    }
                }
            }
        }
        return begun;
    }

    // ---- the text

    int feed(int c) {
        if (c < 0 || c > 127) return BAD;
        if (tape.length() == 160) return FULL;
        tape.append((char) c);
        return tape.length();
    }

    int end(int n) {
        if (n < 0 || n > tape.length()) return BAD;
        int had = tape.length();
        tape.delete(n, had);
        return had;
    }

    private String src, tok;
    private int pos, at;

    private void token() throws Fault {
        while (pos < src.length() && src.charAt(pos) == ' ') pos++;
        at = pos;
        java.util.regex.Matcher m = java.util.regex.Pattern.compile("[a-z]+|[0-9]+|;").matcher(src);
        m.region(pos, src.length());
        if (pos == src.length()) {
            tok = "";
        } else if (m.lookingAt()) {
            tok = m.group();
            pos = m.end();
            if (Character.isDigit(tok.charAt(0)) && tok.length() > 2) throw new Fault(1, at);
        } else {
            throw new Fault(1, at);
        }
    }

    private boolean isFigures() { return !tok.isEmpty() && Character.isDigit(tok.charAt(0)); }

    private int within(int lo, int hi) throws Fault {
        if (!isFigures()) throw new Fault(2, at);
        int v = Integer.parseInt(tok);
        if (v < lo || v > hi) throw new Fault(3, at);
        return v;
    }

    private int number(int lo, int hi) throws Fault {
        token();
        return within(lo, hi);
    }

    private void semicolon() throws Fault {
        token();
        if (!tok.equals(";")) throw new Fault(2, at);
    }

    private void fresh(Set<Integer> told, int v) throws Fault {
        if (!told.add(v)) throw new Fault(4, at);
    }

    private int parse(World t) throws Fault {
        int lines = 0;
        boolean street = false;
        Set<Integer> paid = new HashSet<>(), usedNotes = new HashSet<>(), usedOnes = new HashSet<>();
        for (token(); !tok.isEmpty(); token()) {
            switch (tok) {
                case "street" -> {
                    if (street) throw new Fault(4, at);
                    street = true;
                    t.notes = number(1, 6);
                    t.people = number(1, 4);
                    semicolon();
                }
                case "rule" -> {
                    if (t.laws.size() == 8) throw new Fault(5, at);
                    Law l = new Law();
                    l.one = number(0, 3);
                    l.note = number(0, 5);
                    usedOnes.add(l.one);
                    usedNotes.add(l.note);
                    Set<Integer> both = new HashSet<>();
                    token();
                    while (isFigures()) {
                        l.needs.add(within(0, 5));
                        fresh(both, Integer.parseInt(tok));
                        token();
                    }
                    if (tok.equals("not")) {
                        do {
                            token();
                            if (tok.equals(";") && !l.bars.isEmpty()) break;
                            l.bars.add(within(0, 5));
                            fresh(both, Integer.parseInt(tok));
                        } while (true);
                    }
                    if (!tok.equals(";")) throw new Fault(2, at);
                    usedNotes.addAll(both);
                    t.laws.add(l);
                }
                case "worth", "debt" -> {
                    int sign = tok.equals("worth") ? 1 : -1;
                    int n = number(0, 5);
                    fresh(paid, n);
                    usedNotes.add(n);
                    t.worth.put(n, sign * number(0, 9));
                    semicolon();
                }
                case "home" -> {
                    fresh(t.home, number(0, 3));
                    semicolon();
                }
                case "stop" -> {
                    fresh(t.stopped, number(0, 5));
                    semicolon();
                }
                case "today" -> {
                    fresh(t.today, number(0, 5));
                    semicolon();
                }
                default -> throw new Fault(2, at);
            }
            lines++;
        }
        usedNotes.addAll(t.stopped);
        usedNotes.addAll(t.today);
        usedOnes.addAll(t.home);
        for (int n : usedNotes) if (n >= t.notes) throw new Fault(6, src.length());
        for (int p : usedOnes) if (p >= t.people) throw new Fault(7, src.length());
        return lines;
    }

    int text() {
        src = tape.toString();
        tape.setLength(0);
        pos = 0;
        World t = new World();
        try {
            int lines = parse(t);
            w = t;
            fault = 0;
            seen.clear();
            Arrays.fill(images, null);
            return lines;
        } catch (Fault f) {
            fault = f.number;
            return -10 - f.place;
        }
    }

    int fault() { return fault; }

    int rule(int what) {
        int[] all = {w.notes, w.people, w.laws.size(), bits(w.home), bits(w.stopped), bits(w.today), w.date};
        return what < 0 || what >= all.length ? BAD : all[what];
    }

    int law(int k, int what) {
        if (k < 0 || k >= w.laws.size() || what < 0 || what > 4) return BAD;
        Law l = w.laws.get(k);
        return new int[] {l.one, l.note, bits(l.needs), bits(l.bars), flag(holds(w, l, w.today))}[what];
    }

    int worth(int n) { return note(n) ? 100 + w.worth.getOrDefault(n, 0) : BAD; }

    // ---- what is changed

    private static int put(Set<Integer> s, int n, boolean is) {
        int was = flag(s.contains(n));
        if (is) s.add(n);
        else s.remove(n);
        return was;
    }

    int write(int n, boolean is) {
        if (!note(n)) return BAD;
        if (is && w.stopped.contains(n)) return STATE;
        return put(w.today, n, is);
    }

    int home(int p, boolean is) { return p < 0 || p >= w.people ? BAD : put(w.home, p, is); }

    int stop(int n, boolean is) { return note(n) ? put(w.stopped, n, is) : BAD; }

    int need(int k, int n, boolean is) {
        if (k < 0 || k >= w.laws.size() || !note(n)) return BAD;
        Law l = w.laws.get(k);
        if (is && l.bars.contains(n)) return STATE;
        return put(l.needs, n, is);
    }

    int bar(int k, int n, boolean is) {
        if (k < 0 || k >= w.laws.size() || !note(n)) return BAD;
        Law l = w.laws.get(k);
        if (is && l.needs.contains(n)) return STATE;
        return put(l.bars, n, is);
    }

    int pay(int n, int v) {
        if (!note(n) || v < -9 || v > 9) return BAD;
        int was = w.worth.getOrDefault(n, 0);
        w.worth.put(n, v);
        return 100 + was;
    }

    int cut(int n) {
        int had = w.laws.size();
        if (n < 0 || n > had) return BAD;
        w.laws = new ArrayList<>(w.laws.subList(0, n));
        return had;
    }

    // ---- days

    int brings(int s) { return isSet(s) ? bits(brings(w, set(s))) : BAD; }

    int day(int n) {
        if (n < 0 || n > 60) return BAD;
        if (w.date + n >= 1000) return FULL;
        for (int i = 0; i < n; i++) {
            w.today = brings(w, w.today);
            w.date++;
        }
        return bits(w.today);
    }

    int round(int s, int what) {
        if (!isSet(s) || what < 0 || what > 1) return BAD;
        List<Set<Integer>> way = new ArrayList<>();
        Set<Integer> now = set(s);
        while (!way.contains(now)) {
            way.add(now);
            now = brings(w, now);
        }
        int mu = way.indexOf(now);
        return what == 0 ? mu : way.size() - mu;
    }

    private int inAll(List<Set<Integer>> all) {
        int b = 0;
        for (int n = 0; n < w.notes; n++) {
            final int note = n;
            if (all.stream().allMatch(s -> s.contains(note))) b += 1 << n;
        }
        return b;
    }

    private int inNone(List<Set<Integer>> all) {
        int b = 0;
        for (int n = 0; n < w.notes; n++) {
            final int note = n;
            if (all.stream().noneMatch(s -> s.contains(note))) b += 1 << n;
        }
        return b;
    }

    int days(int what) {
        if (what < 0 || what > 4) return BAD;
        List<Set<Integer>> all = agreeing(w);
        if (what == 0) return all.size();
        if (all.isEmpty()) return NONE;
        if (what == 1) return bits(all.get(0));
        if (what == 2) return bits(all.get(all.size() - 1));
        return what == 3 ? inAll(all) : inNone(all);
    }

    private World cutTo(int n) {
        World c = w.copy();
        while (c.laws.size() > n) c.laws.remove(c.laws.size() - 1);
        return c;
    }

    int first() {
        for (int n = 0; n <= w.laws.size(); n++) if (agreeing(cutTo(n)).isEmpty()) return n;
        return NONE;
    }

    int less() {
        int gone = 0;
        while (agreeing(cutTo(w.laws.size() - gone)).isEmpty()) gone++;
        return gone;
    }

    // ---- where it begins

    int begins(int s) { return isSet(s) ? bits(begin(w, set(s))) : BAD; }

    int pure(int what) {
        if (what < 0 || what > 1) return BAD;
        List<Set<Integer>> all = agreeing(w);
        all.removeIf(s -> !begin(w, s).equals(s));
        if (what == 0) return all.size();
        return all.isEmpty() ? NONE : bits(all.get(0));
    }

    private Set<Integer> writers(Set<Integer> s, int n) {
        Set<Integer> who = new TreeSet<>();
        for (Law l : w.laws) if (l.note == n && holds(w, l, s)) who.add(l.one);
        return who;
    }

    int wrote(int s, int n) { return isSet(s) && note(n) ? bits(writers(set(s), n)) : BAD; }

    int could(int n) {
        if (!note(n)) return BAD;
        Set<Integer> who = new TreeSet<>();
        for (Set<Integer> s : agreeing(w)) who.addAll(writers(s, n));
        return bits(who);
    }

    // ---- what is to be done

    int fewest(int n, boolean is, int what) {
        if (!note(n) || what < 0 || what > 1) return BAD;
        for (int many = 0; many <= w.people; many++) {
            for (int b = 0; b < 1 << w.people; b++) {
                Set<Integer> more = set(b);
                if (more.size() != many || more.stream().anyMatch(w.home::contains)) continue;
                World c = w.copy();
                c.home.addAll(more);
                if (agreeing(c).stream().anyMatch(s -> s.contains(n) == is)) return what == 0 ? many : b;
            }
        }
        return NONE;
    }

    int police(int n, int what) {
        if (!note(n) || what < 0 || what > 1) return BAD;
        for (int many = 0; many <= w.notes; many++) {
            for (int b = 0; b < 1 << w.notes; b++) {
                Set<Integer> more = set(b);
                if (more.size() != many || more.contains(n)) continue;
                if (more.stream().anyMatch(w.stopped::contains)) continue;
                World c = w.copy();
                c.stopped.addAll(more);
                if (agreeing(c).stream().noneMatch(s -> s.contains(n))) return what == 0 ? many : b;
            }
        }
        return NONE;
    }

    int comes() {
        int best = NONE, change = 99;
        for (Set<Integer> s : agreeing(w)) {
            int unlike = 0;
            for (int n = 0; n < w.notes; n++) if (s.contains(n) != w.today.contains(n)) unlike++;
            if (unlike < change) {
                change = unlike;
                best = bits(s);
            }
        }
        return best;
    }

    int richest(int what) {
        if (what < 0 || what > 1) return BAD;
        int best = NONE, most = -1000;
        for (Set<Integer> s : agreeing(w)) {
            int sum = s.stream().mapToInt(n -> w.worth.getOrDefault(n, 0)).sum();
            if (sum > most) {
                most = sum;
                best = bits(s);
            }
        }
        return best == NONE || what == 0 ? best : 100 + most;
    }

    // ---- odds

    private interface Measure {
        long of(List<Set<Integer>> all);
    }

    private long expect(int v, int what, Measure m) {
        if (v < 0 || v > 10 || what < 0 || what > 1) return BAD;
        BigInteger sum = BigInteger.ZERO, under = BigInteger.ONE;
        int r = w.laws.size();
        for (int i = 0; i < r; i++) under = under.multiply(BigInteger.TEN);
        for (int b = 0; b < 1 << r; b++) {
            World c = w.copy();
            BigInteger weight = BigInteger.ONE;
            for (int i = r - 1; i >= 0; i--) {
                boolean stands = (b >> i & 1) == 1;
                weight = weight.multiply(BigInteger.valueOf(stands ? 10 - v : v));
                if (!stands) c.laws.remove(i);
            }
            if (weight.signum() != 0) sum = sum.add(weight.multiply(BigInteger.valueOf(m.of(agreeing(c)))));
        }
        BigInteger g = sum.gcd(under);
        return (what == 0 ? sum : under).divide(g).longValueExact();
    }

    long odds(int v, int n, int what) {
        if (!note(n)) return BAD;
        return expect(v, what, all -> all.stream().anyMatch(s -> s.contains(n)) ? 1 : 0);
    }

    long none(int v, int what) { return expect(v, what, all -> all.isEmpty() ? 1 : 0); }

    long mean(int v, int what) { return expect(v, what, List::size); }

    // ---- which day it was

    int see(int n, boolean is) {
        if (!note(n)) return BAD;
        if (seen.size() == 8) return FULL;
        seen.add(new int[] {n, flag(is)});
        return seen.size();
    }

    int forget(int n) {
        int had = seen.size();
        if (n < 0 || n > had) return BAD;
        while (seen.size() > n) seen.remove(seen.size() - 1);
        return had;
    }

    private List<Set<Integer>> fitting() {
        List<Set<Integer>> all = agreeing(w);
        for (int[] s : seen) all.removeIf(x -> flag(x.contains(s[0])) != s[1]);
        return all;
    }

    int fits(int what) {
        if (what < 0 || what > 3) return BAD;
        List<Set<Integer>> all = fitting();
        if (what == 0) return all.size();
        if (all.isEmpty()) return NONE;
        return what == 1 ? bits(all.get(0)) : what == 2 ? inAll(all) : inNone(all);
    }

    int ask(int what) {
        if (what < 0 || what > 1) return BAD;
        List<Set<Integer>> all = fitting();
        for (int left = 0; left < all.size(); left++) {
            for (int n = 0; n < w.notes; n++) {
                final int note = n;
                int with = (int) all.stream().filter(s -> s.contains(note)).count();
                if (Math.max(with, all.size() - with) == left) return what == 0 ? n : left;
            }
        }
        return NONE;
    }

    // ---- by a seed

    int drift(int seed, int n, int what) {
        if (n < 1 || n > 60 || what < 0 || what > 1) return BAD;
        long s = seed;
        Set<Integer> t = new TreeSet<>(w.today);
        int agreed = 0;
        for (int i = 0; i < n; i++) {
            s = (s * 1103515245L + 12345L) & 0xFFFFFFFFL;
            int note = (int) (s % (1L << 31) / 65536 % w.notes);
            put(t, note, !t.contains(note));
            t = brings(w, t);
            if (brings(w, t).equals(t)) agreed++;
        }
        return what == 0 ? bits(t) : agreed;
    }

    // ---- images, sheets

    int keep(int k) {
        if (k < 0 || k > 1) return BAD;
        int was = flag(images[k] != null);
        images[k] = w.copy();
        return was;
    }

    int back(int k) {
        if (k < 0 || k > 1) return BAD;
        if (images[k] == null) return STATE;
        w = images[k].copy();
        return bits(w.today);
    }

    int sheet(int k, int lane, int n) {
        if (k < 0 || k > 3 || lane < 0 || lane > 2 || n > 40) return BAD;
        if (n < 0) return -14;
        cells[k] = new int[n];
        lanes[k] = lane;
        return 1;
    }

    int lay(int k, int i, int v) {
        if (k < 0 || k > 3) return BAD;
        if (cells[k] == null) return -11;
        if (i < 0 || i >= cells[k].length) return -12;
        int size = new int[] {256, 65536, 0}[lanes[k]];
        int low = size == 0 ? v : Math.floorMod(v, size);
        cells[k][i] = size != 0 && low >= size / 2 ? low - size : low;
        return 1;
    }

    int read(int k, int lane, int f, int n) {
        if (k < 0 || k > 3 || lane < 0 || lane > 2 || n < 0 || n > 20) return BAD;
        Set<Integer> before = new TreeSet<>(w.today);
        int came = 0, found = 0;
        for (long i = 0; i < n; i++) {
            long a = f + 2 * i, b = a + 1;
            if (cells[k] == null) found = 1;
            else if (lanes[k] != lane) found = 3;
            else if (a < 0 || a >= cells[k].length || b >= cells[k].length) found = 2;
            if (found != 0) break;
            int there = cells[k][(int) b];
            if (there < 0 || there > 1 || write(cells[k][(int) a], there == 1) < 0) {
                w.today = before;
                return -20 - (int) i;
            }
            came++;
        }
        torn = found;
        return came;
    }

    int torn() { return torn; }

    int count(int what) {
        switch (what) {
            case 0: return seen.size();
            case 1: return flag(images[0] != null) + flag(images[1] != null);
            case 2: return tape.length();
            case 3: return cells[0] == null ? NONE : cells[0].length;
            case 4: return w.today.size();
            case 5: return (int) w.laws.stream().filter(l -> holds(w, l, w.today)).count();
            default: return BAD;
        }
    }
}
