import java.util.NoSuchElementException;
import java.util.TreeSet;

/** Texts of all kinds against readers that try every way, and calls of all kinds that must not throw. */
public final class WildCallsTests {
    static int wrong = 0;
    static long lcg = 99;

    static int roll(int k) {
        lcg = lcg * 6364136223846793005L + 1442695040888963407L;
        return (int) ((lcg >>> 33) % k);
    }

    /** Follows all ways through a text at once; open: some way came to the end of the text and wants more. */
    static class Ways {
        String t;
        boolean open;

        int skip(int i) {
            while (i < t.length() && t.charAt(i) == ' ') i++;
            return i;
        }

        TreeSet<Integer> sign(TreeSet<Integer> from, String any) {
            TreeSet<Integer> to = new TreeSet<>();
            for (int i : from) {
                int j = skip(i);
                if (j >= t.length()) open = true;
                else if (any.indexOf(t.charAt(j)) >= 0) to.add(j + 1);
            }
            return to;
        }

        /** Without blanks ahead. */
        TreeSet<Integer> next(TreeSet<Integer> from, String any) {
            TreeSet<Integer> to = new TreeSet<>();
            for (int i : from) {
                if (i >= t.length()) open = true;
                else if (any.indexOf(t.charAt(i)) >= 0) to.add(i + 1);
            }
            return to;
        }

        boolean atEnd(TreeSet<Integer> ways) {
            for (int i : ways) if (skip(i) >= t.length()) { open = true; return true; }
            return false;
        }

        static TreeSet<Integer> both(TreeSet<Integer> a, TreeSet<Integer> b) {
            TreeSet<Integer> c = new TreeSet<>(a);
            c.addAll(b);
            return c;
        }

        boolean all(String text) { return false; }

        int fault(String text) {
            if (all(text)) return -1;
            for (int k = 0; k < text.length(); k++) {
                open = false;
                all(text.substring(0, k + 1));
                if (!open) return k;
            }
            return text.length();
        }
    }

    static final class CostWays extends Ways {
        TreeSet<Integer> atom(TreeSet<Integer> from, int depth) {
            TreeSet<Integer> to = sign(from, "rpnlk");
            TreeSet<Integer> digits = sign(from, "0123456789");
            for (int n = 0; n < 4 && !digits.isEmpty(); n++) {
                // A number goes on as long as there are digits.
                TreeSet<Integer> more = next(digits, "0123456789");
                for (int i : digits) if (!more.contains(i + 1)) to.add(i);
                digits = more;
            }
            if (depth < 6) {
                TreeSet<Integer> in = sign(from, "[");
                if (!in.isEmpty()) to.addAll(sign(sum(in, depth + 1), "]"));
            } else {
                sign(from, "");
            }
            return to;
        }

        TreeSet<Integer> list(TreeSet<Integer> from, int depth, int level) {
            String[] between = {"*/", "+-", "&", "|"};
            TreeSet<Integer> to = new TreeSet<>();
            TreeSet<Integer> ways = item(from, depth, level);
            while (!ways.isEmpty() && !to.containsAll(ways)) {
                to.addAll(ways);
                TreeSet<Integer> on = sign(ways, between[level]);
                ways = on.isEmpty() ? on : item(on, depth, level);
            }
            return to;
        }

        TreeSet<Integer> item(TreeSet<Integer> from, int depth, int level) {
            if (level == 0) return atom(from, depth);
            return level == 2 ? unit(from, depth) : list(from, depth, level - 1);
        }

        TreeSet<Integer> sum(TreeSet<Integer> from, int depth) { return list(from, depth, 1); }

        TreeSet<Integer> condition(TreeSet<Integer> from, int depth) { return list(from, depth, 3); }

        TreeSet<Integer> unit(TreeSet<Integer> from, int depth) {
            TreeSet<Integer> to = new TreeSet<>();
            if (depth < 6) {
                TreeSet<Integer> not = sign(from, "!");
                if (!not.isEmpty()) to.addAll(unit(not, depth + 1));
                TreeSet<Integer> in = sign(from, "(");
                if (!in.isEmpty()) to.addAll(sign(condition(in, depth + 1), ")"));
            }
            TreeSet<Integer> left = sum(from, depth);
            TreeSet<Integer> compared = left.isEmpty() ? left : sign(left, "=<>");
            if (!compared.isEmpty()) to.addAll(sum(compared, depth));
            return to;
        }

        boolean all(String text) {
            t = text;
            TreeSet<Integer> ways = new TreeSet<>();
            ways.add(0);
            for (int n = 0; n < 160; n++) {
                TreeSet<Integer> y = sign(sign(ways, "y"), ":");
                if (y.isEmpty()) return false;
                TreeSet<Integer> asked = sign(condition(y, 0), "?");
                TreeSet<Integer> done = both(sum(y, 0), asked.isEmpty() ? asked : sum(asked, 0));
                if (done.isEmpty()) return false;
                if (atEnd(done)) return true;
                ways = sign(done, ";");
            }
            return false;
        }
    }

    static final class SlateWays extends Ways {
        TreeSet<Integer> number(TreeSet<Integer> from, int low, int high) {
            TreeSet<Integer> to = new TreeSet<>();
            for (int n = low; n <= high; n++) {
                for (int zero = 0; zero < (n < 10 ? 2 : 1); zero++) {
                    String s = (zero == 1 ? "0" : "") + n;
                    TreeSet<Integer> ways = sign(from, s.substring(0, 1));
                    if (s.length() == 2) ways = next(ways, s.substring(1));
                    else if (!ways.isEmpty() && ways.first() < t.length() && Character.isDigit(t.charAt(ways.first()))) ways.clear();
                    to.addAll(ways);
                }
            }
            return to;
        }

        TreeSet<Integer> row(TreeSet<Integer> from, int figures, String any) {
            TreeSet<Integer> ways = sign(from, ";");
            for (int n = 0; n < figures; n++) ways = sign(ways, any);
            return ways;
        }

        TreeSet<Integer> rows(TreeSet<Integer> from, int low, int high, String any) {
            TreeSet<Integer> to = new TreeSet<>();
            for (int n = low; n <= high; n++) to.addAll(row(from, n, any));
            return to;
        }

        boolean all(String text) {
            boolean done = false;
            for (char kind : "tdsm".toCharArray())
                for (int base = 4; base <= 11; base++)
                    for (int some = 1; some <= 3; some++) done |= one(text, kind, base, some);
            return done;
        }

        /** Some: how many figures has the row that tells how many rows there are. */
        boolean one(String text, char kind, int base, int some) {
            t = text;
            String any = "*abcdefgh" + "0123456789".substring(0, base > 10 ? 10 : base);
            TreeSet<Integer> ways = new TreeSet<>();
            ways.add(0);
            ways = sign(ways, "" + kind);
            if (base <= 10) ways = number(sign(ways, "b"), base, base);
            if (kind == 'd') ways = both(ways, number(sign(ways, "r"), 0, 99));
            if (kind == 'd') {
                ways = row(rows(rows(ways, 1, 6, any), 1, 2, any), some, any);
                for (int n = 0; n < 2 * some; n++) ways = rows(ways, 1, 6, any);
            } else if (kind == 't') {
                if (some > 2) return false;
                ways = row(rows(ways, 1, 3, any), some, any);
                for (int n = 0; n < (some == 2 ? 3 : 1); n++) ways = rows(ways, 1, 6, any);
            } else {
                ways = rows(rows(rows(ways, 1, 3, any), 1, 2, any), 1, 6, any);
            }
            return atEnd(ways);
        }
    }

    static void type(SlateSum s, String t) {
        for (int i = 0; i < t.length(); i += 20) {
            int[] n = new int[5];
            for (int j = 0; j < 20; j++) n[j / 4] = n[j / 4] << 8 | (i + j < t.length() ? t.charAt(i + j) : 0);
            s.feed(n[0], n[1], n[2], n[3], n[4]);
        }
    }

    static void due(String what, int got, int want) {
        if (got == want) return;
        wrong++;
        if (wrong < 20) System.out.println(what + " answered " + got + ", due is " + want);
    }

    static String atomText(int depth) {
        switch (roll(depth > 4 ? 3 : 4)) {
            case 0: return "" + roll(roll(2) == 0 ? 10 : 10000);
            case 1: case 2: return "" + "rpnlk".charAt(roll(5));
            default: return "[" + sumText(depth + 1) + "]";
        }
    }

    static String sumText(int depth) {
        StringBuilder b = new StringBuilder(atomText(depth));
        while (roll(3) == 0) b.append("+-*/".charAt(roll(4))).append(atomText(depth));
        return b.toString();
    }

    static String conditionText(int depth) {
        String unit;
        switch (roll(depth > 4 ? 2 : 4)) {
            case 0: case 1: unit = sumText(depth) + "=<>".charAt(roll(3)) + sumText(depth); break;
            case 2: unit = "!" + conditionText(depth + 1); break;
            default: unit = "(" + conditionText(depth + 1) + ")";
        }
        return roll(3) == 0 ? unit + "&|".charAt(roll(2)) + conditionText(depth + 1) : unit;
    }

    static String costText() {
        StringBuilder b = new StringBuilder();
        do {
            b.append(b.length() == 0 ? "y:" : ";y:");
            if (roll(2) == 0) b.append(conditionText(0)).append('?');
            b.append(sumText(0));
        } while (roll(3) == 0);
        return b.toString();
    }

    static String slateText() {
        StringBuilder b = new StringBuilder();
        char kind = "tdsm".charAt(roll(4));
        b.append(kind);
        if (roll(2) == 0) b.append("b").append(roll(2) == 0 ? "" + (4 + roll(7)) : "0" + (4 + roll(6)));
        if (roll(8) == 0 || kind == 'd' && roll(2) == 0) b.append("r").append(roll(100));
        int x = 1 + roll(3), y = 1 + roll(2);
        int rows = kind == 'd' ? 3 + 2 * x : kind == 't' && y == 2 ? 5 : 3;
        for (int r = 0; r < rows; r++) {
            b.append(';');
            int w = r == (kind == 'd' ? 2 : 0) ? x : r == 1 ? y : 1 + roll(6);
            for (int p = 0; p < w; p++) b.append("0123*abcdefgh44567".charAt(roll(roll(4) == 0 ? 18 : 15)));
        }
        return b.toString();
    }

    static String blanked(String t) {
        StringBuilder b = new StringBuilder();
        for (char c : t.toCharArray()) {
            while (roll(12) == 0) b.append(' ');
            b.append(c);
        }
        return b.toString();
    }

    static String spoilt(String t, String signs) {
        StringBuilder b = new StringBuilder(t);
        for (int n = roll(3); n > 0 && b.length() > 0; n--) {
            int at = roll(b.length());
            switch (roll(4)) {
                case 0: b.deleteCharAt(at); break;
                case 1: b.insert(at, signs.charAt(roll(signs.length()))); break;
                case 2: b.setCharAt(at, signs.charAt(roll(signs.length()))); break;
                default: b.setLength(at);
            }
        }
        String s = roll(3) == 0 ? blanked(b.toString()) : b.toString();
        return s.length() > 160 ? s.substring(0, 160) : s;
    }

    /** The base is told by one or two digits that make no number of 4 .. 10: the document has a word of its own on it. */
    static boolean boundless(String t) {
        String s = t.trim();
        int b = s.indexOf('b');
        if (b < 0 || !s.substring(0, b).trim().matches("[tdsm]")) return false;
        String rest = s.substring(b + 1).trim();
        if (rest.matches("(?s)\\d\\d\\d.*")) return true;
        int digits = rest.matches("(?s)\\d\\d.*") ? 2 : rest.matches("(?s)\\d.*") ? 1 : 0;
        if (digits == 0) return false;
        int n = Integer.parseInt(rest.substring(0, digits));
        return n < 4 || n > 10;
    }

    static void faults(int rounds) {
        SlateSum s = new SlateSum();
        CostWays costs = new CostWays();
        SlateWays slates = new SlateWays();
        for (int n = 0; n < rounds; n++) {
            String c = spoilt(costText(), "y:;!()[]+-*/=<>|&?rpnlk01 x");
            s.end(0);
            type(s, c);
            due("fault(1) of \"" + c + "\"", s.fault(1), costs.fault(c));
            if (n % 4 != 0) continue;
            String t = spoilt(slateText(), "tdsmbr;0123456789*aehi ");
            s.end(0);
            type(s, t);
            if (!boundless(t)) due("fault(0) of \"" + t + "\"", s.fault(0), slates.fault(t));
        }
    }

    static int wild() {
        int[] far = {Integer.MIN_VALUE, Integer.MAX_VALUE, -1000000, -2, 160, 512, 1 << 20, -6, 60};
        return roll(8) == 0 ? far[roll(far.length)] : roll(roll(3) == 0 ? 12 : 4) - 1;
    }

    static void call(SlateSum s) {
        switch (roll(32)) {
            case 0: s.feed(wild(), wild(), wild(), wild(), wild()); break;
            case 1: s.end(wild()); break;
            case 2: s.fault(wild()); break;
            case 3: s.text(wild()); break;
            case 4:
                try {
                    s.at(wild(), wild());
                } catch (NoSuchElementException e) {
                    break;
                }
                break;
            case 5: s.wide(wild()); break;
            case 6: s.cost(wild()); break;
            case 7: case 8: s.tell(wild(), wild(), wild()); break;
            case 9: case 10: s.rub(wild(), wild()); break;
            case 11: s.undo(); break;
            case 12: s.answers(wild()); break;
            case 13: s.can(wild(), wild()); break;
            case 14: s.sure(wild(), wild()); break;
            case 15: s.letter(wild()); break;
            case 16: s.known(); break;
            case 17: s.wrong(); break;
            case 18: s.best(wild()); break;
            case 19: s.cheap(wild()); break;
            case 20: s.mean(wild()); break;
            case 21: s.looks(wild()); break;
            case 22: s.slip(wild()); break;
            case 23: s.thumb(wild()); break;
            case 24: s.mend(); break;
            case 25: s.lean(wild()); break;
            case 26: s.heart(); break;
            case 27: s.drawn((long) wild() << roll(40), wild()); break;
            case 28: s.image(); break;
            case 29: s.back(); break;
            case 30: s.unlike(); break;
            default: s.count(wild());
        }
    }

    static void calls(int rounds) {
        for (int n = 0; n < rounds; n++) {
            SlateSum s = new SlateSum();
            for (int i = 0; i < 500; i++) {
                if (roll(30) == 0) {
                    s.end(0);
                    boolean cost = roll(3) == 0;
                    type(s, spoilt(cost ? costText() : slateText(), "yt;x"));
                    s.text(cost ? 1 : 0);
                }
                try {
                    call(s);
                } catch (RuntimeException e) {
                    wrong++;
                    if (wrong < 20) e.printStackTrace(System.out);
                }
            }
        }
    }

    public static void main(String[] args) {
        int rounds = args.length > 0 ? Integer.parseInt(args[0]) : 40;
        if (args.length > 1) lcg = Long.parseLong(args[1]);
        faults(rounds * 100);
        calls(rounds);
        System.out.println(wrong == 0 ? "nothing was otherwise" : wrong + " times it was otherwise");
        if (wrong != 0) System.exit(1);
    }
}
