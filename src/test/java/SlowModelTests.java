import java.util.ArrayList;
import java.util.Arrays;
import java.util.HashMap;
import java.util.List;
import java.util.Map;
import java.util.NoSuchElementException;

/** Plays random calls against a model that reckons everything anew, with texts, the slow way. */
public final class SlowModelTests {
    static int wrong = 0;
    static long lcg = 12345;

    static int roll(int k) {
        lcg = lcg * 6364136223846793005L + 1442695040888963407L;
        return (int) ((lcg >>> 33) % k);
    }

    static final class Model {
        char kind;
        int base = 10;
        int rest = 0;
        List<char[]> rows = new ArrayList<>();
        List<char[]> image = null;
        List<int[]> acts = new ArrayList<>();
        String cost = null;

        int rowX() { return kind == 'd' ? 2 : 0; }

        static List<char[]> copy(List<char[]> rows) {
            List<char[]> c = new ArrayList<>();
            for (char[] r : rows) c.add(r.clone());
            return c;
        }

        boolean possible(int x, int y) {
            if (kind == 'd') return y != 0 && rest < y;
            return kind != 'm' || y <= x;
        }

        List<String> reckon(int x, int y) {
            if (!possible(x, y)) return null;
            List<String> r = new ArrayList<>();
            String sx = num(x), sy = num(y);
            if (kind == 'd') {
                String n = num(x * y + rest);
                r.add(n); r.add(sy); r.add(sx);
                int taken = n.length() - sx.length() + 1;
                int left = Integer.parseInt(n.substring(0, taken), base);
                for (int i = 0; i < sx.length(); i++) {
                    int part = y * Integer.parseInt(sx.substring(i, i + 1), base);
                    r.add(num(part));
                    left -= part;
                    String s = num(left);
                    if (taken < n.length()) s = s + n.charAt(taken++);
                    left = Integer.parseInt(s, base);
                    r.add(num(left));
                }
                return r;
            }
            r.add(sx); r.add(sy);
            if (kind == 't') {
                if (sy.length() == 2) {
                    r.add(num(x * Integer.parseInt(sy.substring(1), base)));
                    r.add(num(x * Integer.parseInt(sy.substring(0, 1), base)));
                }
                r.add(num(x * y));
            } else {
                r.add(num(kind == 's' ? x + y : x - y));
            }
            return r;
        }

        String num(int n) { return Integer.toString(n, base); }

        boolean fits(List<char[]> told, List<String> real) {
            if (real == null || real.size() != told.size()) return false;
            Map<Character, Character> of = new HashMap<>();
            for (int r = 0; r < told.size(); r++) {
                if (real.get(r).length() != told.get(r).length) return false;
                for (int p = 0; p < told.get(r).length; p++) {
                    char t = told.get(r)[p], f = real.get(r).charAt(p);
                    if (t == '*') continue;
                    if (t <= '9') { if (t != f) return false; continue; }
                    Character had = of.get(t);
                    if (had != null && had != f) return false;
                    if (had == null && of.containsValue(f)) return false;
                    of.put(t, f);
                }
            }
            return true;
        }

        List<int[]> answers(List<char[]> told) {
            List<int[]> a = new ArrayList<>();
            int mx = (int) Math.pow(base, told.get(rowX()).length), my = (int) Math.pow(base, told.get(1).length);
            for (int x = 0; x < mx; x++) {
                if (num(x).length() != told.get(rowX()).length) continue;
                for (int y = 0; y < my; y++) {
                    if (num(y).length() != told.get(1).length) continue;
                    if (fits(told, reckon(x, y))) a.add(new int[] {x, y});
                }
            }
            return a;
        }

        Map<Integer, List<String>> reckoned = new HashMap<>();

        int figure(int[] a, int r, int p) {
            return reckoned.computeIfAbsent(100 * a[0] + a[1], k -> reckon(a[0], a[1])).get(r).charAt(p) - '0';
        }

        int[] split(List<int[]> as, int r, int p) {
            int[] n = new int[10];
            for (int[] a : as) n[figure(a, r, p)]++;
            return n;
        }

        boolean settles(List<int[]> as, int looks) {
            if (as.size() == 1) return true;
            if (looks == 0) return false;
            for (int r = 0; r < rows.size(); r++) for (int p = 0; p < rows.get(r).length; p++) {
                if (rows.get(r)[p] >= '0' && rows.get(r)[p] <= '9') continue;
                boolean all = true;
                for (int f = 0; f < base && all; f++) {
                    List<int[]> g = new ArrayList<>();
                    for (int[] a : as) if (figure(a, r, p) == f) g.add(a);
                    if (g.size() > 0 && g.size() < as.size() || g.size() == 1) all = settles(g, looks - 1);
                    else if (g.size() == as.size()) all = false;
                }
                if (all) return true;
            }
            return false;
        }

        int told() { int n = 0; for (char[] r : rows) for (char c : r) if (c >= '0' && c <= '9') n++; return n; }
        int lost() { int n = 0; for (char[] r : rows) for (char c : r) if (c == '*') n++; return n; }
        int letters() { int n = 0; for (char[] r : rows) for (char c : r) if (c >= 'a') n++; return n; }

        int wrong() {
            if (lost() + letters() > 0) return -1000000;
            String sx = new String(rows.get(rowX())), sy = new String(rows.get(1));
            int x = Integer.parseInt(sx, base), y = Integer.parseInt(sy, base);
            if (!num(x).equals(sx) || !num(y).equals(sy) || !possible(x, y)) return 10 * rowX();
            List<String> real = null;
            real = reckon(x, y);
            for (int r = 0; r < rows.size(); r++) {
                if (r >= real.size() || real.get(r).length() != rows.get(r).length) return 10 * r;
                for (int p = 0; p < rows.get(r).length; p++) if (real.get(r).charAt(p) != rows.get(r)[p]) return 10 * r + p;
            }
            return -1;
        }

        List<Integer> slips() {
            List<Integer> s = new ArrayList<>();
            List<char[]> c = copy(rows);
            for (int r = 0; r < rows.size(); r++) for (int p = 0; p < rows.get(r).length; p++) {
                char was = c.get(r)[p];
                if (was < '0' || was > '9') continue;
                for (int f = 0; f < base; f++) {
                    if (f == was - '0') continue;
                    c.get(r)[p] = (char) ('0' + f);
                    if (!answers(c).isEmpty()) s.add(1000 * r + 10 * p + f);
                }
                c.get(r)[p] = was;
            }
            return s;
        }

        int mend() {
            if (!answers(rows).isEmpty()) return 0;
            List<int[]> t = new ArrayList<>();
            for (int r = 0; r < rows.size(); r++) for (int p = 0; p < rows.get(r).length; p++)
                if (rows.get(r)[p] >= '0' && rows.get(r)[p] <= '9') t.add(new int[] {r, p});
            for (int[] a : t) { List<char[]> c = copy(rows); c.get(a[0])[a[1]] = '*'; if (!answers(c).isEmpty()) return 1; }
            for (int[] a : t) for (int[] b : t) {
                if (a == b) continue;
                List<char[]> c = copy(rows); c.get(a[0])[a[1]] = '*'; c.get(b[0])[b[1]] = '*';
                if (!answers(c).isEmpty()) return 2;
            }
            return -1;
        }

        List<Integer> lean() {
            List<Integer> left = new ArrayList<>();
            List<char[]> c = copy(rows);
            for (int r = 0; r < rows.size(); r++) for (int p = 0; p < rows.get(r).length; p++) {
                char was = c.get(r)[p];
                c.get(r)[p] = '*';
                if (answers(c).size() != 1) { c.get(r)[p] = was; left.add(10 * r + p); }
            }
            return left;
        }
    }

    static void due(String call, long got, long want, Model m, String log) {
        if (got == want) return;
        wrong++;
        if (wrong > 20) return;
        StringBuilder b = new StringBuilder();
        for (char[] r : m.rows) b.append(';').append(r);
        System.out.println(call + " answered " + got + ", due is " + want + " on " + m.kind + "b" + m.base + "r" + m.rest + b + "  " + log);
    }

    static void type(SlateSum s, String t) {
        for (int i = 0; i < t.length(); i += 20) {
            int[] n = new int[5];
            for (int j = 0; j < 20; j++) n[j / 4] = n[j / 4] << 8 | (i + j < t.length() ? t.charAt(i + j) : 0);
            s.feed(n[0], n[1], n[2], n[3], n[4]);
        }
    }

    static Model makeModel(int most) {
        while (true) {
            Model m = new Model();
            m.kind = "tdsm".charAt(roll(4));
            m.base = roll(3) == 0 ? 10 : 4 + roll(7);
            int wx = 1 + roll(most), wy = 1 + roll(2);
            int x = (int) (roll(1000) % Math.pow(m.base, wx)), y = (int) (roll(100) % Math.pow(m.base, wy));
            if (m.kind == 'd' && roll(2) == 0) m.rest = roll(roll(3) == 0 ? 100 : 6);
            List<String> real = m.reckon(x, y);
            if (real == null) continue;
            for (String r : real) m.rows.add(r.toCharArray());
            int damage = roll(4), holes = roll(100), letters = roll(3) == 0 ? roll(60) : 0;
            Map<Character, Character> names = new HashMap<>();
            for (char[] r : m.rows) for (int p = 0; p < r.length; p++) {
                if (damage > 1 && roll(14) == 0) r[p] = (char) ('0' + roll(m.base));
                int d = roll(100);
                if (d < holes) r[p] = '*';
                else if (roll(100) < letters) {
                    Character n = names.get(r[p]);
                    if (n == null && names.size() < 8) { n = (char) ('a' + names.size()); names.put(r[p], n); }
                    if (n != null) r[p] = roll(30) == 0 ? (char) ('a' + roll(8)) : n;
                }
            }
            return m;
        }
    }

    static String textOf(Model m) {
        StringBuilder b = new StringBuilder().append(m.kind);
        if (m.base != 10) b.append("b").append(roll(2) == 0 && m.base < 10 ? "0" : "").append(m.base);
        if (m.rest != 0 || m.kind == 'd' && roll(3) == 0) b.append("r").append(m.rest);
        for (char[] r : m.rows) b.append(';').append(r);
        return b.toString();
    }

    static long costOf(int which, int r, int p, int n, int l, int k) {
        switch (which) {
            case 0: return 9L * r - p * k;
            case 1: return r > 1 && p < 2 ? k * l - n : l == 2 ? 7 : 0;
            case 2: return k - (p == 0 ? 0 : 100 / (p - 1 == 0 ? 1000 : p - 1)) ;
            default: return !(r == 0 || p == 1) ? -k : k;
        }
    }
    static final String[] COSTS = {"y:9*r-p*k", "y:r>1&p<2?k*l-n;y: l = 2 ? 7",
        "y:p=0?k-100/[p+1]+100;y:p=1?k;y:k-100/[p-1]", "y:!(r=0|p=1)?0-k;y:k"};

    static void compare(SlateSum s, Model m, int cost, boolean deep, String log) {
        List<int[]> as = m.answers(m.rows);
        due("answers(-1)", s.answers(-1), as.size(), m, log);
        for (int i = 0; i < as.size(); i += 1 + as.size() / 5) due("answers(" + i + ")", s.answers(i), 100 * as.get(i)[0] + as.get(i)[1], m, log);
        due("answers(end)", s.answers(as.size()), -1, m, log);
        due("answers(-2)", s.answers(-2), -1, m, log);
        int known = 0, best = -1, bestMost = 0, cheap = -1000000;
        long worth = 0, squares = 0;
        int[] ofLetter = new int[8];
        Arrays.fill(ofLetter, -1);
        for (int r = 0; r < m.rows.size(); r++) for (int p = 0; p < m.rows.get(r).length; p++) {
            char c = m.rows.get(r)[p];
            boolean open = c < '0' || c > '9';
            int[] n = m.split(as, r, p);
            int bits = 0, most = 0;
            long sq = 0;
            for (int f = 0; f < 10; f++) { if (n[f] > 0) bits |= 1 << f; most = Math.max(most, n[f]); sq += (long) n[f] * n[f]; }
            due("can(" + r + "," + p + ")", s.can(r, p), bits, m, log);
            int sure = Integer.bitCount(bits) == 1 ? Integer.numberOfTrailingZeros(bits) : -1;
            due("sure(" + r + "," + p + ")", s.sure(r, p), sure, m, log);
            if (c >= 'a') ofLetter[c - 'a'] = bits;
            if (open && sure >= 0) known++;
            if (open && !as.isEmpty() && (best < 0 || most < bestMost)) { best = 10 * r + p; bestMost = most; squares = sq; }
            if (Integer.bitCount(bits) > 1) {
                long w = cost < 0 ? 0 : costOf(cost, r, p, m.rows.size(), m.rows.get(r).length, Integer.bitCount(bits));
                if (cost == 2) w = p == 0 ? Integer.bitCount(bits) : p == 1 ? Integer.bitCount(bits) : Integer.bitCount(bits) - 100 / (p - 1);
                if (cheap == -1000000 || w < worth) { cheap = 10 * r + p; worth = w; }
            }
            due("at", s.at(r, p), c == '*' ? 10 : c >= 'a' ? 11 + c - 'a' : c - '0', m, log);
        }
        for (int i = 0; i < 8; i++) due("letter(" + i + ")", s.letter(i), ofLetter[i], m, log);
        due("known()", s.known(), as.isEmpty() ? -1 : known, m, log);
        due("best(0)", s.best(0), best, m, log);
        due("best(1)", s.best(1), best < 0 ? -1 : bestMost, m, log);
        due("cheap(0)", s.cheap(0), cheap, m, log);
        due("cheap(1)", s.cheap(1), cheap < 0 ? -1000000 : worth, m, log);
        long g = best < 0 ? 1 : java.math.BigInteger.valueOf(squares).gcd(java.math.BigInteger.valueOf(as.size())).longValue();
        due("mean(0)", s.mean(0), best < 0 ? -1 : squares / g, m, log);
        due("mean(1)", s.mean(1), best < 0 ? -1 : as.size() / g, m, log);
        due("wrong()", s.wrong(), m.wrong(), m, log);
        for (int r = 0; r < m.rows.size(); r++) {
            List<char[]> c = Model.copy(m.rows);
            Arrays.fill(c.get(r), '*');
            due("thumb(" + r + ")", s.thumb(r), m.answers(c).size(), m, log);
            due("wide(" + r + ")", s.wide(r), m.rows.get(r).length, m, log);
        }
        List<char[]> c = Model.copy(m.rows);
        for (char[] r : c) Arrays.fill(r, '*');
        due("heart()", s.heart(), m.answers(c).size(), m, log);
        due("count(4)", s.count(4), m.told(), m, log);
        due("count(5)", s.count(5), m.lost(), m, log);
        due("count(6)", s.count(6), m.letters(), m, log);
        due("count(9)", s.count(9), m.acts.size(), m, log);
        if (m.wrong() != -1) due("lean(-1)", s.lean(-1), -1000000, m, log);
        if (!deep) return;
        for (int n = 0; n < 3; n++)
            due("looks(" + n + ")", s.looks(n), as.isEmpty() || as.size() > 200 ? -1 : m.settles(as, n) ? 1 : 0, m, log);
        List<Integer> sl = m.slips();
        due("slip(-1)", s.slip(-1), sl.size(), m, log);
        for (int i = 0; i < sl.size(); i++) due("slip(" + i + ")", s.slip(i), sl.get(i), m, log);
        due("slip(end)", s.slip(sl.size()), -1, m, log);
        due("mend()", s.mend(), m.mend(), m, log);
        if (m.wrong() == -1) {
            List<Integer> le = m.lean();
            due("lean(-1)", s.lean(-1), le.size(), m, log);
            for (int i = 0; i < le.size(); i++) due("lean(" + i + ")", s.lean(i), le.get(i), m, log);
            due("lean(end)", s.lean(le.size()), -1, m, log);
        }
    }

    static long seed;
    static int draw(int k) {
        seed = seed * 6364136223846793005L + 1442695040888963407L;
        return (int) Long.remainderUnsigned(seed >>> 33, k);
    }

    static void playDrawn(SlateSum s, Model m) {
        int rub = roll(3) == 0 ? 0 : roll(101);
        long start = (long) roll(1 << 30) * roll(1 << 30) * (roll(2) * 2 - 1);
        seed = start;
        String[] xy = new String[2];
        for (int i = 0; i < 2; i++) {
            int w = m.rows.get(i == 0 ? m.rowX() : 1).length;
            StringBuilder b = new StringBuilder();
            for (int p = 0; p < w; p++) b.append(p == 0 && w > 1 ? draw(m.base - 1) + 1 : draw(m.base));
            xy[i] = b.toString();
        }
        List<String> real = m.reckon(Integer.parseInt(xy[0], m.base), Integer.parseInt(xy[1], m.base));
        int want = -1;
        if (real != null) {
            m.rows.clear();
            for (String r : real) {
                char[] c = r.toCharArray();
                for (int p = 0; p < c.length; p++) if (draw(100) < rub) c[p] = '*';
                m.rows.add(c);
            }
            m.acts.clear();
            want = m.told();
        }
        due("drawn(" + start + "," + rub + ")", s.drawn(start, rub), want, m, "");
    }

    static int unlike(Model m) {
        if (m.image == null) return -1;
        int n = 0;
        for (int r = 0; r < m.rows.size(); r++) {
            char[] a = m.rows.get(r), b = m.image.get(r);
            for (int p = 0; p < Math.max(a.length, b.length); p++)
                if (p >= a.length || p >= b.length || a[p] != b[p]) n++;
        }
        return n;
    }

    static void play(SlateSum s, Model m) {
        int what = roll(14);
        int r = roll(m.rows.size() + 1), p = roll(5), f = roll(m.base + 1);
        boolean there = r < m.rows.size() && p < m.rows.get(r).length;
        char was = there ? m.rows.get(r)[p] : '?';
        if (what < 6) {
            int want = -1;
            if (there && f < m.base && (was < '0' || was > '9')) want = act(m, r, p, (char) ('0' + f));
            due("tell", s.tell(r, p, f), want, m, r + "," + p + "," + f);
        } else if (what < 9) {
            int want = -1;
            if (there && was != '*') want = act(m, r, p, '*');
            due("rub", s.rub(r, p), want, m, r + "," + p);
        } else if (what < 11) {
            int want = -1;
            if (!m.acts.isEmpty()) {
                int[] a = m.acts.remove(m.acts.size() - 1);
                m.rows.get(a[0])[a[1]] = (char) a[2];
                want = m.acts.size();
            }
            due("undo", s.undo(), want, m, "");
        } else if (what == 11) {
            m.image = Model.copy(m.rows);
            due("image", s.image(), m.told(), m, "");
        } else if (what == 12) {
            if (m.image != null) { m.rows = Model.copy(m.image); m.acts.clear(); }
            due("back", s.back(), m.image == null ? -1 : m.told(), m, "");
        } else {
            playDrawn(s, m);
        }
        due("unlike", s.unlike(), unlike(m), m, "");
    }

    static int act(Model m, int r, int p, char sign) {
        m.acts.add(new int[] {r, p, m.rows.get(r)[p]});
        if (m.acts.size() > 40) m.acts.remove(0);
        m.rows.get(r)[p] = sign;
        return m.acts.size();
    }

    static void slates(int rounds, int mostX, boolean deep) {
        for (int i = 0; i < rounds; i++) {
            SlateSum s = new SlateSum();
            int cost = roll(5) - 1;
            for (int c = 0; c < 4; c++) { type(s, COSTS[c]); if (s.text(1) != c) { wrong++; System.out.println("cost " + c); } }
            s.cost(cost);
            Model m = makeModel(mostX);
            type(s, textOf(m));
            due("text(0)", s.text(0), m.rows.size(), m, "");
            due("count(1)", s.count(1), m.base, m, "");
            due("count(2)", s.count(2), m.rest, m, "");
            compare(s, m, cost, deep, "first");
            for (int n = 0; n < 4; n++) {
                play(s, m);
                if (roll(2) == 0) play(s, m);
                compare(s, m, cost, deep && n == 3, "later");
            }
        }
    }

    /** Slates of a few told figures, for which looks differ. */
    static void fewAnswers(int rounds) {
        for (int i = 0; i < rounds; i++) {
            Model m = new Model();
            m.kind = "tdsm".charAt(roll(4));
            m.base = roll(2) == 0 ? 10 : 4 + roll(7);
            int wx = 1 + roll(2), wy = 1 + roll(2);
            int rows = m.kind == 'd' ? 3 + 2 * wx : m.kind == 't' && wy == 2 ? 5 : 3;
            for (int r = 0; r < rows; r++) {
                char[] row = new char[r == m.rowX() ? wx : r == 1 ? wy : 1 + roll(3)];
                for (int p = 0; p < row.length; p++) {
                    int d = roll(10);
                    row[p] = d < 3 ? (char) ('0' + roll(m.base)) : d < 5 ? (char) ('a' + roll(3)) : '*';
                }
                m.rows.add(row);
            }
            List<int[]> as = m.answers(m.rows);
            SlateSum s = new SlateSum();
            type(s, textOf(m));
            s.text(0);
            for (int n = 0; n < 3; n++)
                due("looks(" + n + ")", s.looks(n), as.isEmpty() || as.size() > 200 ? -1 : m.settles(as, n) ? 1 : 0, m, "few");
        }
    }

    /** Full slates, right ones with up to two figures otherwise and some of any figures, numbers that begin with 0 among them. */
    static void fullSlates(int rounds) {
        for (int i = 0; i < rounds; i++) {
            Model m = new Model();
            m.kind = "tdsm".charAt(roll(4));
            m.base = roll(2) == 0 ? 10 : 4 + roll(7);
            m.rest = m.kind == 'd' && roll(2) == 0 ? roll(12) : 0;
            int wx = 1 + roll(3), wy = 1 + roll(2);
            int x = roll((int) Math.pow(m.base, wx)), y = roll((int) Math.pow(m.base, wy));
            List<String> real = m.reckon(x, y);
            int rows = m.kind == 'd' ? 3 + 2 * wx : m.kind == 't' && wy == 2 ? 5 : 3;
            boolean wild = real == null || real.size() != rows || roll(3) == 0;
            for (int r = 0; r < rows; r++) {
                char[] row = new char[r == m.rowX() ? wx : r == 1 ? wy : wild ? 1 + roll(4) : real.get(r).length()];
                for (int p = 0; p < row.length; p++)
                    row[p] = !wild && p < real.get(r).length() ? real.get(r).charAt(p) : roll(4) == 0 ? '0' : (char) ('0' + roll(m.base));
                m.rows.add(row);
            }
            for (int n = roll(3); n > 0; n--) {
                char[] row = m.rows.get(roll(rows));
                row[roll(row.length)] = (char) ('0' + (roll(2) == 0 ? 0 : roll(m.base)));
            }
            SlateSum s = new SlateSum();
            type(s, textOf(m));
            due("text(0)", s.text(0), rows, m, "full");
            due("wrong()", s.wrong(), m.wrong(), m, "full");
            due("lean(-1)", s.lean(-1), m.wrong() == -1 ? m.lean().size() : -1000000, m, "full");
            due("answers(-1)", s.answers(-1), m.answers(m.rows).size(), m, "full");
            due("right has an answer", s.answers(-1), s.wrong() == -1 ? 1 : 0, m, "full");
        }
    }

    static void manyActs() {
        for (int i = 0; i < 60; i++) {
            SlateSum s = new SlateSum();
            Model m = makeModel(2);
            type(s, textOf(m));
            s.text(0);
            for (int n = 0; n < 300; n++) {
                play(s, m);
                for (int r = 0; r < m.rows.size(); r++) for (int p = 0; p < m.rows.get(r).length; p++) {
                    char c = m.rows.get(r)[p];
                    due("at", s.at(r, p), c == '*' ? 10 : c >= 'a' ? 11 + c - 'a' : c - '0', m, "acts");
                }
                due("count(9)", s.count(9), m.acts.size(), m, "acts");
            }
        }
    }

    public static void main(String[] args) {
        int rounds = args.length > 0 ? Integer.parseInt(args[0]) : 60;
        if (args.length > 1) lcg = Long.parseLong(args[1]);
        slates(rounds, 1, true);
        slates(rounds / 3, 2, true);
        slates(rounds / 3, 3, false);
        fewAnswers(rounds * 10);
        fullSlates(rounds * 8);
        manyActs();
        System.out.println(wrong == 0 ? "the slow model agrees" : wrong + " answers are otherwise than the slow model's");
        if (wrong != 0) System.exit(1);
    }
}
