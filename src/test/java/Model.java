import java.math.BigInteger;
import java.util.ArrayList;
import java.util.Arrays;
import java.util.HashMap;
import java.util.List;
import java.util.Map;

/** The document again, written a second time and slowly: nothing is kept, each question lives the month anew. */
final class Model {
    private static final String D = "0123456789";
    private static final String[][] SHAPES = {
        {"astd", D, D, "01234567", ";"}, {D, "123456789", ";"}, {"012", D, "123456789", D, D, ";"}};
    private static final int[] ROOM = {39, 23, 35}, MOST = {8, 8, 6};

    private final StringBuilder[] texts = {new StringBuilder(), new StringBuilder(), new StringBuilder()};
    private final List<int[]> seen = new ArrayList<>();
    private final int[][] sheets = new int[4][];
    private final int[] forms = new int[4];
    private int cap = 9, finding = 0;

    /** A month lived up to the end of a day. */
    private static final class Lived {
        int[] owes, purse, where, on, takes;
        int[] taken = new int[6], ashore = new int[6], aboard = new int[6];
        int last = -1;
        int[][] men, inns;

        int owed(int h) {
            int sum = 0;
            for (int i = 0; i < men.length; i++) sum += where[i] == h ? owes[i] : 0;
            return sum;
        }

        int sound(int ship) {
            int sum = 0;
            for (int i = 0; i < men.length; i++) if ((aboard[ship] & 1 << i) != 0 && men[i][0] < 2) sum++;
            return sum;
        }

        int sails() {
            int sum = 0;
            for (int d : on) sum += d >= 0 ? 1 : 0;
            return sum;
        }
    }

    int fault(int text) {
        if (text < 0 || text > 2) return -2;
        String[] shape = SHAPES[text];
        String t = texts[text].toString();
        if (t.isEmpty()) return -1;
        for (int p = 0; p < t.length(); p++) {
            if (shape[p % shape.length].indexOf(t.charAt(p)) < 0 || p / shape.length >= MOST[text]) return p;
        }
        return t.length() % shape.length == shape.length - 1 ? -1 : t.length();
    }

    private int[][] things(int text) {
        if (texts[text].length() == 0 || fault(text) != -1) return new int[0][];
        String[] items = texts[text].toString().split(";");
        int[][] out = new int[items.length][];
        for (int i = 0; i < items.length; i++) {
            String it = items[i];
            if (text == 0) out[i] = new int[] {"astd".indexOf(it.charAt(0)), n(it, 1), n(it, 2), n(it, 3)};
            if (text == 1) out[i] = new int[] {n(it, 0), n(it, 1)};
            if (text == 2) out[i] = new int[] {Integer.parseInt(it.substring(0, 2)), n(it, 2), n(it, 3), n(it, 4)};
        }
        return out;
    }

    private static int n(String s, int i) {
        return s.charAt(i) - '0';
    }

    private Lived live(int[][] men, int[][] inns, int[][] ships, int absent, int lastDay) {
        Lived v = new Lived();
        v.men = men;
        v.inns = inns;
        v.owes = new int[men.length];
        v.purse = new int[men.length];
        v.where = new int[men.length];
        v.on = new int[men.length];
        v.takes = new int[8];
        int[] lodgers = new int[8];
        for (int i = 0; i < men.length; i++) {
            int h = men[i][3];
            v.owes[i] = men[i][0] == 3 ? 1 : 0;
            v.purse[i] = 10 * men[i][2];
            v.on[i] = -1;
            v.where[i] = h < inns.length && lodgers[h] < inns[h][1] ? h : -1;
            if (v.where[i] >= 0) lodgers[h]++;
        }
        for (int day = 0; day <= lastDay; day++) {
            for (int s = 0; s < ships.length; s++) {
                if (ships[s][0] == day && (absent & 1 << s) == 0) tide(v, s, ships[s], day);
            }
            for (int i = 0; i < men.length; i++) {
                if (v.where[i] < 0 || v.where[i] > 7) continue;
                int p = inns[v.where[i]][0];
                int due = men[i][0] == 3 ? 0 : men[i][0] == 1 ? 2 * p : p + men[i][1];
                for (int coin = 0; coin < due; coin++) {
                    if (v.purse[i] > 0) {
                        v.purse[i]--;
                        v.takes[v.where[i]]++;
                    } else {
                        v.owes[i]++;
                    }
                }
            }
        }
        return v;
    }

    private void tide(Lived v, int s, int[] ship, int day) {
        List<Integer> queue = new ArrayList<>();
        for (int i = 0; i < v.men.length; i++) if (v.where[i] >= 0 && v.where[i] < 8 && v.owes[i] > 0) queue.add(i);
        queue.sort((a, b) -> v.owes[a] != v.owes[b] ? v.owes[b] - v.owes[a] : a - b);
        for (int k = 0; k < queue.size() && k < ship[1]; k++) {
            int i = queue.get(k);
            v.taken[s] |= 1 << i;
            if (k < ship[3] && v.men[i][0] >= 2) {
                v.ashore[s] |= 1 << i;
                continue;
            }
            v.aboard[s] |= 1 << i;
            v.takes[v.where[i]] += 10 * Math.min(cap, ship[2]);
            v.owes[i] = 0;
            v.where[i] = 8 + s;
            v.on[i] = day;
        }
        for (int i = 0; i < 8; i++) if ((v.aboard[s] & 1 << i) != 0) v.last = i;
    }

    private Lived plain(int day) {
        return live(things(0), things(1), things(2), 0, day);
    }

    private static boolean in(int v, int from, int to) {
        return v >= from && v <= to;
    }

    private boolean man(int s) {
        return in(s, 0, things(0).length - 1);
    }

    private boolean inn(int h) {
        return in(h, 0, things(1).length - 1);
    }

    private boolean vessel(int s) {
        return in(s, 0, things(2).length - 1);
    }

    int type(int text, int b) {
        if (!in(text, 0, 2) || !in(b, 0, 255)) return -2;
        if (texts[text].length() == ROOM[text]) return -4;
        return texts[text].append((char) b).length();
    }

    int wipe(int text) {
        if (!in(text, 0, 2)) return -2;
        int had = texts[text].length();
        texts[text].setLength(0);
        return had;
    }

    int undo(int text) {
        if (!in(text, 0, 2)) return -2;
        if (texts[text].length() == 0) return -3;
        texts[text].setLength(texts[text].length() - 1);
        return texts[text].length();
    }

    int sailor(int s, int what) {
        return man(s) && in(what, 0, 3) ? things(0)[s][what] : -2;
    }

    int house(int h, int what) {
        return inn(h) && in(what, 0, 1) ? things(1)[h][what] : -2;
    }

    int ship(int s, int what) {
        return vessel(s) && in(what, 0, 3) ? things(2)[s][what] : -2;
    }

    int cap(int v) {
        if (!in(v, 0, 9)) return -2;
        int was = cap;
        cap = v;
        return was;
    }

    int owes(int day, int s) {
        return in(day, 0, 29) && man(s) ? plain(day).owes[s] : -2;
    }

    int purse(int day, int s) {
        return in(day, 0, 29) && man(s) ? plain(day).purse[s] : -2;
    }

    int where(int day, int s) {
        return in(day, 0, 29) && man(s) ? plain(day).where[s] : -2;
    }

    int takes(int day, int h, int what) {
        if (!in(day, 0, 29) || !inn(h) || !in(what, 0, 1)) return -2;
        return what == 0 ? plain(day).takes[h] : plain(day).owed(h);
    }

    int crew(int s, int what) {
        if (!vessel(s) || !in(what, 0, 4)) return -2;
        Lived v = plain(29);
        return new int[] {v.taken[s], v.ashore[s], v.aboard[s], v.sound(s),
            things(2)[s][1] - Integer.bitCount(v.aboard[s])}[what];
    }

    int richest(int day) {
        if (!in(day, 0, 29)) return -2;
        int n = things(1).length;
        int best = n == 0 ? -1 : 0;
        for (int h = 1; h < n; h++) if (plain(day).takes[h] > plain(day).takes[best]) best = h;
        return best;
    }

    int last() {
        int best = -1;
        int[][] ships = things(2);
        Lived v = plain(29);
        for (int day = 0; day < 30; day++) {
            for (int s = 0; s < ships.length; s++) {
                for (int i = 0; i < v.men.length; i++) if (ships[s][0] == day && v.where[i] == 8 + s) best = i;
            }
        }
        return best;
    }

    int price(int h, int what) {
        if (!inn(h) || !in(what, 0, 1)) return -2;
        int[] much = new int[10];
        for (int p = 0; p < 10; p++) {
            int[][] inns = things(1);
            inns[h][0] = p;
            much[p] = live(things(0), inns, things(2), 0, 29).takes[h];
        }
        int most = Arrays.stream(much).max().getAsInt();
        for (int p = 0; p < 10; p++) if (much[p] == most) return what == 0 ? p : most;
        return -99;
    }

    int lodge(int s, int what) {
        if (!man(s) || !in(what, 0, 1)) return -2;
        int which = -1, latest = -1;
        for (int h = things(1).length - 1; h >= 0; h--) {
            int[][] men = things(0);
            men[s][3] = h;
            Lived v = live(men, things(1), things(2), 0, 29);
            if (v.where[s] == -1) continue;
            int on = v.on[s] < 0 ? 1000 : v.on[s];
            if (on >= latest) {
                which = h;
                latest = on;
            }
        }
        return what == 0 ? which : latest == 1000 ? -1 : latest;
    }

    int look(int s) {
        if (!vessel(s)) return -2;
        for (int k = 0; k < 10; k++) {
            int[][] ships = things(2);
            ships[s][3] = k;
            Lived v = live(things(0), things(1), ships, 0, 29);
            boolean well = true;
            for (int i = 0; i < v.men.length; i++) well &= v.where[i] != 8 + s || v.men[i][0] < 2;
            if (well) return k;
        }
        return -1;
    }

    int leave(int s, int i) {
        if (!man(s) || !in(i, -1, 1)) return -2;
        int n = things(2).length;
        List<int[]> rows = new ArrayList<>();
        rows.add(new int[0]);
        for (int a = 0; a < n; a++) rows.add(new int[] {a});
        for (int a = 0; a < n; a++) for (int b = a + 1; b < n; b++) rows.add(new int[] {a, b});
        for (int[] row : rows) {
            int absent = 0;
            for (int a : row) absent |= 1 << a;
            if (live(things(0), things(1), things(2), absent, 29).on[s] >= 0) continue;
            return i == -1 ? row.length : i < row.length ? row[i] : -1;
        }
        return -1;
    }

    int seen(int day, int h, int much) {
        if (!in(day, 0, 29) || !in(h, 0, 7) || !in(much, 0, 999)) return -2;
        if (seen.size() == 8) return -4;
        seen.add(new int[] {day, h, much});
        return seen.size();
    }

    int forget() {
        int had = seen.size();
        seen.clear();
        return had;
    }

    int read(int s) {
        if (!in(s, 0, 3)) return -2;
        if (sheets[s] == null) return found(1);
        int took = 0;
        for (int k = 0; k < sheets[s].length / 3; k++) {
            if (seen(sheets[s][3 * k], sheets[s][3 * k + 1], sheets[s][3 * k + 2]) < 0) break;
            took++;
        }
        return took;
    }

    private boolean comesOut(int[][] men, int absent) {
        for (int[] one : seen) {
            if (one[1] >= things(1).length) return false;
            if (live(men, things(1), things(2), absent, one[0]).takes[one[1]] != one[2]) return false;
        }
        return true;
    }

    int never() {
        int bits = 0;
        for (int s = 0; s < things(2).length; s++) if (comesOut(things(0), 1 << s)) bits |= 1 << s;
        return bits;
    }

    int was(int s, int what) {
        if (!man(s) || !in(what, 0, 1)) return -2;
        int bits = 0;
        for (int v = 0; v < (what == 0 ? 4 : 10); v++) {
            int[][] men = things(0);
            men[s][what] = v;
            if (comesOut(men, 0)) bits |= 1 << v;
        }
        return bits;
    }

    int ask(int day) {
        if (!in(day, 0, 29)) return -2;
        int best = -1, least = 100;
        for (int h = 0; h < things(1).length; h++) {
            Map<Integer, Integer> alike = new HashMap<>();
            int greatest = 0;
            for (int s = 0; s < 6; s++) {
                if ((never() & 1 << s) == 0) continue;
                int took = live(things(0), things(1), things(2), 1 << s, day).takes[h];
                greatest = Math.max(greatest, alike.merge(took, 1, Integer::sum));
            }
            if (greatest < least) {
                best = h;
                least = greatest;
            }
        }
        return best;
    }

    long storm(int c, int s, int day, int what) {
        if (!in(c, 0, 16) || !man(s) || !in(day, 0, 29) || !in(what, 0, 1)) return Long.MIN_VALUE + 2;
        int n = things(2).length;
        BigInteger above = BigInteger.ZERO;
        for (int come = 0; come < 1 << n; come++) {
            int on = live(things(0), things(1), things(2), ~come, day).on[s];
            if (on < 0) continue;
            int k = Integer.bitCount(come);
            above = above.add(BigInteger.valueOf(c).pow(k).multiply(BigInteger.valueOf(16 - c).pow(n - k)));
        }
        BigInteger below = BigInteger.valueOf(16).pow(n);
        BigInteger g = above.gcd(below);
        return (what == 0 ? above : below).divide(g).longValueExact();
    }

    int port(int seed, int h) {
        if (h != -1 && !inn(h)) return -2;
        int[][] men = things(0);
        int n = things(1).length;
        for (int i = 0; i < men.length && n > 0; i++) {
            seed = 1103515245 * seed + 12345;
            men[i][3] = (seed >> 16 & 0xffff) % n;
        }
        Lived v = live(men, things(1), things(2), 0, 29);
        return h == -1 ? v.sails() : v.takes[h];
    }

    private int found(int number) {
        finding = number;
        return -10 - number;
    }

    private static int as(int form, int v) {
        return form == 0 ? (byte) v : form == 1 ? (short) v : v;
    }

    int sheet(int s, int form, int n) {
        if (!in(s, 0, 3) || !in(form, 0, 2) || n > 60) return -2;
        if (n < 0) return found(5);
        sheets[s] = new int[n];
        forms[s] = form;
        return n;
    }

    int lose(int s) {
        if (!in(s, 0, 3)) return -2;
        if (sheets[s] == null) return found(1);
        int had = sheets[s].length;
        sheets[s] = null;
        return had;
    }

    int put(int s, int form, int i, int v) {
        if (!in(s, 0, 3) || !in(form, 0, 2)) return -2;
        if (sheets[s] == null) return found(1);
        if (forms[s] != form) return found(3);
        if (!in(i, 0, sheets[s].length - 1)) return found(2);
        sheets[s][i] = as(form, v);
        return 1;
    }

    int get(int s, int form, int i) {
        if (!in(s, 0, 3) || !in(form, 0, 2)) return Integer.MIN_VALUE;
        int number = sheets[s] == null ? 1 : forms[s] != form ? 3 : !in(i, 0, sheets[s].length - 1) ? 2 : 0;
        if (number != 0) {
            finding = number;
            return Integer.MIN_VALUE;
        }
        return sheets[s][i];
    }

    int copy(int s, int i, int t, int j, int n) {
        if (!in(s, 0, 3) || !in(t, 0, 3)) return -2;
        if (sheets[s] == null || sheets[t] == null) return found(1);
        if (forms[s] != forms[t]) return found(4);
        if (i < 0 || j < 0 || n < 0) return found(2);
        if ((long) i + n > sheets[s].length || (long) j + n > sheets[t].length) return found(2);
        int[] was = sheets[s].clone();
        for (int k = 0; k < n; k++) sheets[t][j + k] = was[i + k];
        return 1;
    }

    int write(int day, int s) {
        if (!in(day, 0, 29) || !in(s, 0, 3)) return -2;
        if (sheets[s] == null) return found(1);
        int k = 0;
        for (; k < sheets[s].length && k < things(0).length; k++) sheets[s][k] = as(forms[s], owes(day, k));
        return k;
    }

    int count(int what) {
        if (!in(what, 0, 8)) return -2;
        if (what < 3) return things(what).length;
        if (what < 6) return texts[what - 3].length();
        return what == 6 ? plain(29).sails() : what == 7 ? seen.size() : finding;
    }

    long digest() {
        List<Long> told = new ArrayList<>();
        for (int w = 0; w <= 7; w++) told.add((long) count(w));
        for (int t = 0; t < 3; t++) told.add((long) fault(t));
        for (int s = 0; s < count(0); s++) {
            for (long v : new long[] {sailor(s, 0), sailor(s, 1), sailor(s, 2), sailor(s, 3), owes(9, s), owes(29, s),
                purse(9, s), where(9, s), where(29, s), lodge(s, 0), lodge(s, 1), leave(s, -1), leave(s, 0),
                was(s, 0), was(s, 1), storm(5, s, 20, 0), storm(5, s, 20, 1)}) told.add(v);
        }
        for (int h = 0; h < count(1); h++) {
            for (long v : new long[] {house(h, 0), house(h, 1), takes(9, h, 0), takes(9, h, 1), takes(29, h, 0),
                takes(29, h, 1), price(h, 0), price(h, 1), port(7, h)}) told.add(v);
        }
        for (int s = 0; s < count(2); s++) {
            for (long v : new long[] {ship(s, 0), ship(s, 1), ship(s, 2), ship(s, 3), crew(s, 0), crew(s, 1),
                crew(s, 2), crew(s, 3), crew(s, 4), look(s)}) told.add(v);
        }
        for (long v : new long[] {richest(9), richest(29), last(), never(), ask(9), ask(29), port(7, -1)}) told.add(v);
        long h = 17;
        for (long v : told) h = 31 * h + v;
        return h;
    }
}
