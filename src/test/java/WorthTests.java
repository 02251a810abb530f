/** Random costs, grown as trees and told as texts: the worth of every place reckoned on the tree. */
public final class WorthTests {
    private static int wrong = 0;
    private static long lcg = 7;

    private static int roll(int k) {
        lcg = lcg * 6364136223846793005L + 1442695040888963407L;
        return (int) ((lcg >>> 33) % k);
    }

    /** A sign with what stands on both sides of it; a number or a letter has none, [ ( ! have just the right one. */
    private static final class Node {
        String sign;
        Node left;
        Node right;
        int number;

        Node(String sign, Node left, Node right) {
            this.sign = sign;
            this.left = left;
            this.right = right;
        }

        void tell(StringBuilder b) {
            if (left != null) left.tell(b);
            blanks(b);
            b.append(sign);
            if (right != null) right.tell(b);
            if (sign.equals("[")) b.append("]");
            if (sign.equals("(")) b.append(")");
        }

        long reckon(int[] letters) {
            long a = left == null ? 0 : left.reckon(letters);
            long z = right == null ? 0 : right.reckon(letters);
            switch (sign) {
                case "+": return bound(a + z);
                case "-": return bound(a - z);
                case "*": return bound(a * z);
                case "/": return z == 0 ? 0 : bound(Long.signum(a) * Long.signum(z) * (Math.abs(a) / Math.abs(z)));
                case "=": return a == z ? 1 : 0;
                case "<": return a < z ? 1 : 0;
                case ">": return a > z ? 1 : 0;
                case "&": return a == 1 && z == 1 ? 1 : 0;
                case "|": return a == 1 || z == 1 ? 1 : 0;
                case "!": return 1 - z;
                case "[": case "(": return z;
                case "r": case "p": case "n": case "l": case "k": return letters["rpnlk".indexOf(sign)];
                default: return number;
            }
        }
    }

    private static boolean blank;

    private static void blanks(StringBuilder b) {
        while (blank && roll(6) == 0) b.append(' ');
    }

    private static long bound(long n) {
        return n > 1000000 ? 1000000 : n < -1000000 ? -1000000 : n;
    }

    private static Node leaf() {
        if (roll(2) == 0) return new Node("" + "rpnlk".charAt(roll(5)), null, null);
        int[] tops = {3, 10, 100, 10000};
        int number = roll(8) == 0 ? 9999 : roll(tops[roll(4)]);
        StringBuilder digits = new StringBuilder().append(number);
        while (digits.length() < 4 && roll(5) == 0) digits.insert(0, '0');
        Node n = new Node(digits.toString(), null, null);
        n.number = number;
        return n;
    }

    private static Node atom(int depth) {
        return depth < 6 && roll(4) == 0 ? new Node("[", null, sum(depth + 1)) : leaf();
    }

    private static Node term(int depth) {
        Node n = atom(depth);
        while (roll(3) == 0) n = new Node(roll(2) == 0 ? "*" : "/", n, atom(depth));
        return n;
    }

    private static Node sum(int depth) {
        Node n = term(depth);
        while (roll(3) == 0) n = new Node(roll(2) == 0 ? "+" : "-", n, term(depth));
        return n;
    }

    private static Node unit(int depth) {
        int which = depth < 6 ? roll(5) : 4;
        if (which == 0) return new Node("!", null, unit(depth + 1));
        if (which == 1) return new Node("(", null, condition(depth + 1));
        return new Node("" + "=<>".charAt(roll(3)), sum(depth), sum(depth));
    }

    private static Node truth(int depth) {
        Node n = unit(depth);
        while (roll(4) == 0) n = new Node("&", n, unit(depth));
        return n;
    }

    private static Node condition(int depth) {
        Node n = truth(depth);
        while (roll(4) == 0) n = new Node("|", n, truth(depth));
        return n;
    }

    private static long worth(Node[] conditions, Node[] sums, int[] letters) {
        for (int i = 0; i < sums.length; i++) {
            if (conditions[i] == null || conditions[i].reckon(letters) == 1) return sums[i].reckon(letters);
        }
        return 0;
    }

    private static void type(SlateSum s, String t) {
        for (int i = 0; i < t.length(); i += 20) {
            int[] n = new int[5];
            for (int j = 0; j < 20; j++) n[j / 4] = n[j / 4] << 8 | (i + j < t.length() ? t.charAt(i + j) : 0);
            s.feed(n[0], n[1], n[2], n[3], n[4]);
        }
    }

    private static void due(String what, long got, long want) {
        if (got == want) return;
        wrong++;
        if (wrong < 20) System.out.println(what + " answered " + got + ", due is " + want);
    }

    /** The cost holds for each slate in turn, whose places that can have two figures are asked one by one. */
    private static void compare(String cost, Node[] conditions, Node[] sums) {
        SlateSum s = new SlateSum();
        type(s, cost);
        due("fault(1) of " + cost, s.fault(1), SlateSum.NONE);
        due("text(1) of " + cost, s.text(1), 0);
        s.cost(0);
        for (String slate : new String[] {"s;1*;*;**", "d;**;*;*;*;1", "t;*a;1b;**;*;***"}) {
            type(s, slate);
            s.text(0);
            int place = SlateSum.HIDDEN;
            long least = SlateSum.HIDDEN;
            for (int row = 0; row < s.count(3); row++) {
                for (int p = 0; p < s.wide(row); p++) {
                    int k = Integer.bitCount(s.can(row, p));
                    if (k < 2) continue;
                    long here = worth(conditions, sums, new int[] {row, p, s.count(3), s.wide(row), k});
                    if (place == SlateSum.HIDDEN || here < least) {
                        place = 10 * row + p;
                        least = here;
                    }
                }
            }
            due("cheap(0) of " + slate + " by " + cost, s.cheap(0), place);
            due("cheap(1) of " + slate + " by " + cost, s.cheap(1), least);
        }
    }

    private static void costs(int rounds) {
        for (int n = 0; n < rounds; n++) {
            int clauses = 1 + roll(3);
            Node[] conditions = new Node[clauses];
            Node[] sums = new Node[clauses];
            StringBuilder b = new StringBuilder();
            blank = roll(3) == 0;
            for (int i = 0; i < clauses; i++) {
                b.append(i == 0 ? "y" : ";y");
                blanks(b);
                b.append(":");
                conditions[i] = roll(4) == 0 ? null : condition(0);
                sums[i] = sum(0);
                if (conditions[i] != null) {
                    conditions[i].tell(b);
                    b.append("?");
                }
                sums[i].tell(b);
                blanks(b);
            }
            if (b.length() <= 160) compare(b.toString(), conditions, sums);
        }
    }

    public static void main(String[] args) {
        int rounds = args.length > 0 ? Integer.parseInt(args[0]) : 5000;
        if (args.length > 1) lcg = Long.parseLong(args[1]);
        costs(rounds);
        System.out.println(wrong == 0 ? "every worth is as due" : wrong + " answers are not as due");
        if (wrong != 0) System.exit(1);
    }
}
