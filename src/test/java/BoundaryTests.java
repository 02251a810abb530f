import java.math.BigInteger;
import java.util.List;
import java.util.NoSuchElementException;
import java.util.function.Supplier;
import java.util.function.ToLongFunction;

/**
 * The document's boundary cases, promise by promise: too small, too large, empty, full, going round, refused.
 * Each check bears the words of the sentence that it holds the program to.
 */
public final class BoundaryTests {
    static final int NONE = -1;
    static final int HIDDEN = -1000000;
    static final int MIN = Integer.MIN_VALUE;
    static final int MAX = Integer.MAX_VALUE;
    static final int NO_PLACE = -77;
    static int wrong = 0;
    static int checks = 0;
    static String promise = "";

    static void of(String which) {
        promise = which;
    }

    static void due(String what, long got, long want) {
        checks++;
        if (got != want) {
            wrong++;
            System.out.println(promise + ": " + what + " answered " + got + ", due is " + want);
        }
    }

    static void due(String what, boolean got, boolean want) {
        due(what, got ? 1 : 0, want ? 1 : 0);
    }

    static void due(String what, String got, String want) {
        checks++;
        if (!got.equals(want)) {
            wrong++;
            System.out.println(promise + ": " + what + " answered\n  " + got + ", due is\n  " + want);
        }
    }

    static int type(SlateSum s, String t) {
        int size = s.count(8);
        for (int i = 0; i < t.length(); i += 20) {
            int[] n = new int[5];
            for (int j = 0; j < 20; j++) n[j / 4] = n[j / 4] << 8 | (i + j < t.length() ? t.charAt(i + j) : 0);
            size = s.feed(n[0], n[1], n[2], n[3], n[4]);
        }
        return size;
    }

    static SlateSum slate(String t) {
        SlateSum s = new SlateSum();
        type(s, t);
        if (s.text(0) < 3) due("the slate " + t + ", which has a fault at " + s.fault(0), 0, 1);
        return s;
    }

    static SlateSum withCosts(SlateSum s, String... costs) {
        for (String c : costs) {
            type(s, c);
            if (s.text(1) == NONE) due("the cost " + c + ", which has a fault at " + s.fault(1), 0, 1);
        }
        return s;
    }

    static int at(SlateSum s, int row, int place) {
        try {
            return s.at(row, place);
        } catch (NoSuchElementException e) {
            return NO_PLACE;
        }
    }

    static String times(String t, int n) {
        StringBuilder b = new StringBuilder();
        for (int i = 0; i < n; i++) b.append(t);
        return b.toString();
    }

    static int fault(int sort, String t) {
        SlateSum s = new SlateSum();
        type(s, t);
        return s.fault(sort);
    }

    static void slateFault(String t, int want) {
        due("FAULT of \"" + t + "\" as a SLATE", fault(0, t), want);
    }

    static void costFault(String t, int want) {
        due("FAULT of \"" + t + "\" as a COST", fault(1, t), want);
    }

    /** Each beginning of a text that is none itself ends too early: its FAULT is its length. */
    static void endsTooEarly(int sort, String t) {
        for (int k = 0; k < t.length(); k++) due("the length, if it ends too early: \"" + t.substring(0, k) + "\"", fault(sort, t.substring(0, k)), k);
        due("no FAULT of \"" + t + "\"", fault(sort, t), NONE);
    }

    static String rows(SlateSum s) {
        StringBuilder b = new StringBuilder();
        for (int row = 0; s.wide(row) != NONE; row++) {
            b.append(row == 0 ? "" : ";");
            for (int place = 0; place < s.wide(row); place++) b.append("0123456789*abcdefgh".charAt(s.at(row, place)));
        }
        return b.toString();
    }

    /** All that can be seen of an object, told to its end: its acts are undone, its image comes back, its tape is read. */
    static String unwound(SlateSum s) {
        StringBuilder b = new StringBuilder();
        for (int what = 0; what < 10; what++) b.append(s.count(what)).append(' ');
        b.append(s.fault(0)).append(' ').append(s.fault(1)).append(' ').append(rows(s)).append(' ').append(s.answers(NONE));
        b.append(' ').append(s.cheap(0)).append(' ').append(s.cheap(1)).append(' ').append(s.unlike());
        while (s.undo() != NONE) b.append('\n').append(rows(s));
        b.append(' ').append(s.back()).append(' ').append(rows(s)).append(' ').append(s.text(0)).append(s.text(1)).append(' ').append(rows(s));
        return b.toString();
    }

    /** A refused call answers as told and changes nothing: a twin that was not asked is alike in all. */
    static void refused(String what, Supplier<SlateSum> made, ToLongFunction<SlateSum> call, long want) {
        SlateSum asked = made.get();
        due(what, call.applyAsLong(asked), want);
        due(what + " changes nothing:", unwound(asked), unwound(made.get()));
    }

    /** Three acts, an image of the second one, two costs, of which the latter holds, and a begun text on the tape. */
    static SlateSum busy() {
        SlateSum s = withCosts(slate("s;1*;a;b2"), "y:0-r", "y:p*10+k");
        s.cost(1);
        s.tell(0, 1, 4);
        s.rub(1, 0);
        s.image();
        s.tell(1, 0, 8);
        type(s, "t;1;2");
        return s;
    }

    static SlateSum fullTape(String t) {
        SlateSum s = busy();
        s.end(0);
        type(s, t + times(" ", 160 - t.length()));
        return s;
    }

    static long one(boolean b) {
        return b ? 1 : 0;
    }

    static void usedFor512Calls() {
        of("What it is");
        SlateSum s = new SlateSum();
        s.feed(0x733B2A3B, 0x323B3900, 0, 0, 0);
        s.text(0);
        for (int n = 3; n <= 508; n += 2) {
            s.tell(0, 0, n % 10);
            s.rub(0, 0);
        }
        due("the 509th call", s.answers(NONE), 1);
        due("the 510th call", s.answers(0), 702);
        due("the 511th call", s.count(9), 40);
        due("the 512th call", s.undo(), 39);
    }

    static void aSlateText() {
        of("Terms, a SLATE");
        String[] whole = {"t;1;2;3", "t;***;**;*;*;*", "d;*;*;*;*;*", "d;*;*;**;*;*;*;*", "d;*;*;***;*;*;*;*;*;*", "s;a;b;c", "m;123;45;6", "tb4;1;2;3",
            "db9r9;*;*;*;*;*", "dr99;*;**;*;*;*"};
        for (String t : whole) endsTooEarly(0, t);
        slateFault("", 0);
        slateFault(" ", 1);
        slateFault(times(" ", 160), 160);
        for (int one = 1; one < 256; one++) {
            boolean kind = one == 't' || one == 'd' || one == 's' || one == 'm';
            if (one != ' ') due("KIND t, d, s, m, not the byte " + one, fault(0, (char) one + ";*;*;**;*;*;"), !kind ? 0 : one == 'd' ? 13 : 8);
        }
        due("BASE 10 without", slate("s;9;9;*").count(1), 10);
        for (int base = 4; base <= 10; base++) {
            due("BASE 4 .. 10", slate("tb" + base + ";1;1;1").count(1), base);
            due("BASE of two digits", slate("sb" + (base < 10 ? "0" : "") + base + ";1;1;1").count(1), base);
            slateFault("mb" + base + ";" + (base - 1) + ";1;1", NONE);
            slateFault("mb" + base + ";" + (char) ('0' + base) + ";1;1", base < 10 ? 4 : 5);
            slateFault("mb" + base + ";1;1;12321" + (base - 1), NONE);
            slateFault("mb" + base + ";1;1;12321" + (char) ('0' + base), base < 10 ? 13 : 14);
        }
        for (int base = 0; base < 100; base++) {
            if (base < 4 || base > 10) slateFault("sb" + base + ";1;1;1", base < 10 ? 2 : 3);
            if (base < 4) slateFault("sb0" + base + ";1;1;1", 3);
            slateFault("sb" + base / 10 + base % 10 + "0;1;1;1", 4);
        }
        slateFault("tb;1;1;1", 2);
        slateFault("tb-4;1;1;1", 2);
        slateFault("tb 4;1;1;1", NONE);
        slateFault("tb 3;1;1;1", 3);
        slateFault("tb1 0;1;1;1", 2);
        slateFault("tb0 4;1;1;1", 2);
        due("REST 0 without", slate("d;*;*;*;*;*").count(2), 0);
        for (int rest = 0; rest < 100; rest++) {
            due("REST 0 .. 99", slate("dr" + rest + ";*;*;*;*;*").count(2), rest);
            due("REST of two digits", slate("db4r" + rest / 10 + rest % 10 + ";*;*;*;*;*").count(2), rest);
        }
        slateFault("dr000;*;*;*;*;*", 4);
        slateFault("dr990;*;*;*;*;*", 4);
        slateFault("dr100", 4);
        slateFault("dr;*;*;*;*;*", 2);
        slateFault("dr9 9;*;*;*;*;*", 4);
        for (char kind : "tsm".toCharArray()) {
            slateFault(kind + "r0;*;*;*", 1);
            slateFault(kind + "b5r0;*;*;*", 3);
        }
        slateFault("dr5b5;*;*;*;*;*", 3);
        slateFault("db5r5r5;*;*;*;*;*", 5);
        slateFault("db5b5;*;*;*;*;*", 3);
    }

    static void rowsOfASlate() {
        of("Terms, ROWS");
        for (char kind : "tsm".toCharArray()) {
            due("X, Y and one more", slate(kind + ";*;*;*").count(3), 3);
            due("Y of two FIGURES", slate(kind + (kind == 't' ? ";***;**;*;*;*" : ";***;**;*")).count(3), kind == 't' ? 5 : 3);
            slateFault(kind + ";;*;*", 2);
            slateFault(kind + ";****;*;*", 5);
            slateFault(kind + ";*;;*", 4);
            slateFault(kind + ";*;***;*", 6);
            slateFault(kind + ";*;*;******", NONE);
            slateFault(kind + ";*;*;*******", 12);
            slateFault(kind + ";*;*;*;", 7);
            slateFault(kind + ";*;*;*;*", 7);
            slateFault(kind + ";*;**;*;*;*;*", kind == 't' ? 12 : 8);
        }
        slateFault("t;*;**;", 7);
        slateFault("t;*;**;*", 8);
        slateFault("t;*;**;*;*", 10);
        slateFault("t;*;**;******;******;******", NONE);
        for (int row = 2; row < 5; row++) slateFault("t;*;**" + times(";*", row - 2) + ";*******;*;*", 13 + 2 * (row - 2));
        slateFault("d;;*;*;*;*", 2);
        slateFault("d;******;*;*;*;*", NONE);
        slateFault("d;*******;*;*;*;*", 8);
        slateFault("d;*;;*;*;*", 4);
        slateFault("d;*;***;*;*;*", 6);
        slateFault("d;*;*;;*;*", 6);
        slateFault("d;*;*;****;*;*", 9);
        for (int figures = 1; figures <= 3; figures++) {
            String head = "d;******;**;" + times("*", figures);
            String full = head + times(";******", 2 * figures);
            due("of d two ROWS more for each FIGURE of X", slate(full).count(3), 3 + 2 * figures);
            slateFault(full + ";", full.length());
            slateFault(full + "*", full.length());
            slateFault(full.substring(0, full.length() - 7), full.length() - 7);
            for (int row = 0; row < 2 * figures; row++) {
                slateFault(head + times(";*", row) + ";*******", head.length() + 2 * row + 7);
                slateFault(head + times(";*", row) + ";;", head.length() + 2 * row + 1);
            }
        }
        for (int i = 0; i < 8; i++) due("letters a .. h", at(slate("s;*;*;" + (char) ('a' + i)), 2, 0), 11 + i);
        for (int figure = 0; figure < 10; figure++) due("digits below BASE", at(slate("s;*;*;" + figure), 2, 0), figure);
        due("* (lost)", at(slate("s;0;0;*"), 2, 0), 10);
        for (int one = 1; one < 256; one++) {
            boolean is = one >= '0' && one <= '9' || one >= 'a' && one <= 'h' || one == '*';
            boolean goesOn = is || one == ' ';
            slateFault("m;*;*;" + (char) one + "*", goesOn ? NONE : 6);
        }
    }

    static void blanks() {
        of("Terms, blanks");
        slateFault(" d b 5 r 7 ; * * ; * ; * ; * ; * * ", NONE);
        slateFault("d   b   10   r   99 ;*;*;*;*;*", NONE);
        slateFault(times(" ", 153) + "s;1;1;2", NONE);
        slateFault("s;1;1;2" + times(" ", 153), NONE);
        slateFault("s;1;1;2" + times(" ", 152) + "x", 159);
        slateFault("s;1;1;" + times(" ", 154), 160);
        slateFault("s;\t1;1;2", 2);
        slateFault("s;1;1;2\n", 7);
        slateFault("s;1;1;2" + (char) 160, 7);
        costFault(" y : ! ( r = 1 ) & [ p ] < 22 | k > 3 ? [ 1 + 2 ] * 3 ; y : 4 ", NONE);
        costFault("y:1 2", 4);
        costFault("y:12 34;y:1", 5);
        costFault("y:1234 5", 7);
        costFault("y:1\t", 3);
    }

    static void aCostText() {
        of("Terms, COSTS");
        for (String t : new String[] {"y:1", "y:r", "y:r=1?2", "y:!r=1?2", "y:(r=1)?2", "y:[r]", "y:!([r]<1&p>2|k=3)?2"}) {
            costFault(t, NONE);
            costFault(t + ";", t.length() + 1);
            costFault(t + ";" + t, NONE);
            costFault(t + "y:1", t.length());
        }
        endsTooEarly(1, "y:1");
        endsTooEarly(1, "y:[n]");
        endsTooEarly(1, "y:!r=1?l");
        endsTooEarly(1, "y:!((r=1|p=2)&n<3)?[k]");
        endsTooEarly(1, "y:[[[[[[1]]]]]]");
        endsTooEarly(1, "y:!!!!!!1=1?2");
        costFault("", 0);
        costFault(times(" ", 7), 7);
        costFault(";", 0);
        costFault("y:1;;y:1", 4);
        for (int one = 1; one < 256; one++) {
            boolean letter = one == 'r' || one == 'p' || one == 'n' || one == 'l' || one == 'k';
            boolean digit = one >= '0' && one <= '9';
            if (one == ' ') continue;
            int want = letter || digit ? NONE : one == '[' || one == '!' || one == '(' ? 3 : 2;
            costFault("y:" + (char) one, want);
            boolean behind = one == '+' || one == '-' || one == '*' || one == '/' || one == '=' || one == '<' || one == '>' || one == ';';
            costFault("y:r" + (char) one, behind ? 4 : 3);
        }
        costFault("y:", 2);
        costFault("y:0", NONE);
        costFault("y:9999", NONE);
        costFault("y:0000", NONE);
        costFault("y:10000", 6);
        costFault("y:00000", 6);
        costFault("y:123456", 6);
        costFault("y:99999", 6);
        costFault("y:[r+00001]", 9);
        costFault("y:1=12345?1", 8);
        costFault("y:!1", 4);
        costFault("y:!1;y:1", 4);
        costFault("y:(1)", 4);
        costFault("y:(1=1)", 7);
        costFault("y:(1=1);y:1", 7);
        costFault("y:(1=1)+1", 7);
        costFault("y:1=1;y:1", 5);
        costFault("y:1=1&?1", 6);
        costFault("y:1=1|?1", 6);
        costFault("y:1=1&1?1", 7);
        costFault("y:1=1=1?1", 5);
        costFault("y:1=1?1=1?1", 7);
        costFault("y:1=1?!1", 6);
        costFault("y:1=1?(1)", 6);
    }

    static void sixWithinOneAnother() {
        of("Terms, at most six of ( [ !");
        String[] opening = {"(", "[", "!"};
        for (int kinds = 0; kinds < 729; kinds++) {
            StringBuilder open = new StringBuilder();
            StringBuilder close = new StringBuilder();
            boolean inSum = false;
            boolean can = true;
            for (int n = 0, left = kinds; n < 6; n++, left /= 3) {
                int which = left % 3;
                can = can && (!inSum || which == 1);
                inSum = inSum || which == 1;
                open.append(opening[which]);
                if (which == 0 || which == 1) close.insert(0, which == 1 ? "]" : ")");
            }
            if (!can) continue;
            String inside = inSum ? "1" : "1=1";
            String behind = close.toString();
            int ends = behind.lastIndexOf(']') + 1;
            String whole = "y:" + open + inside + behind.substring(0, ends) + (inSum ? "=1" : "") + behind.substring(ends) + "?2";
            costFault(whole, NONE);
            for (String seventh : opening) costFault("y:" + open + seventh, 8);
            boolean inCondition = !inSum && open.charAt(5) == '(';
            if (!inSum) costFault("y:" + open + "1=[", 10);
            costFault("y:" + open + (inCondition ? "1=1&(" : "("), inCondition ? 12 : 8);
            costFault("y:" + open + (inCondition ? "1=1|!" : "!"), inCondition ? 12 : 8);
        }
        costFault("y:((((((1=1))))))&((((((1=1))))))?[[[[[[1]]]]]]", NONE);
        costFault("y:[[[[[[1]]]]]]+[[[[[[1]]]]]]*[[[[[[1]]]]]]", NONE);
        costFault("y:[[[[[[1]]]]]]+[[[[[[[1", 22);
        costFault("y:!!!!!!1=1&!!!!!!1=1|!!!!!!1=1?1", NONE);
        costFault("y:!!!!!!1=1&!!!!!!!1", 18);
        costFault("y:1=1?[[[[[[1]]]]]];y:[[[[[[[1", 28);
        String[] ahead = {"y:1=", "y:1+", "y:1*", "y:1=1?", "y:1=1?1-", "y:1;y:", "y:[1]=", "y:[[1]]=1&", "y:1=1|1<"};
        for (String begun : ahead) {
            costFault(begun + "[[[[[[[1", begun.length() + 6);
            costFault(begun + "[[[[[[1", begun.length() + 7);
        }
        for (String begun : new String[] {"y:", "y:1=1&", "y:1=1|", "y:!1=1&", "y:(1=1)|", "y:1;y:"}) {
            for (String opening7 : opening) costFault(begun + times(opening7, 7), begun.length() + 6);
            for (String opening6 : opening) costFault(begun + times(opening6, 6), begun.length() + 6);
            costFault(begun + "(!(!([[1", begun.length() + 6);
            costFault(begun + "(!(!(1=[[1", begun.length() + 8);
        }
        costFault("y:" + times("[", 158), 8);
        costFault("y:" + times("!", 158), 8);
        costFault("y:" + times("(", 158), 8);
        costFault("y:1" + times("+1", 78) + " ", NONE);
        costFault("y:1=1" + times("&1=1", 38) + "?1" + " ", NONE);
        costFault("y:r" + times(";y:r", 39), NONE);
    }

    static long worth(String cost) {
        SlateSum s = withCosts(slate("m;1*;*;**"), cost);
        s.cost(0);
        return s.cheap(1);
    }

    static void worths() {
        of("Terms, WORTH");
        due("the largest number", worth("y:9999"), 9999);
        due("the least number", worth("y:0000"), 0);
        due("just 1,000,000", worth("y:1000*1000"), 1000000);
        due("1,000,001 is too large", worth("y:1000*1000+1"), 1000000);
        due("1,000,000 behind a sum, then less", worth("y:1000*1000+1-1"), 999999);
        due("just -1,000,000", worth("y:0-1000*1000"), -1000000);
        due("-1,000,001 is too small", worth("y:0-1000*1000-1"), -1000000);
        due("-1,000,000 behind a sum, then more", worth("y:0-1000*1000-1+1"), -999999);
        due("1,001,000 is too large", worth("y:1000*1001"), 1000000);
        due("behind each sign", worth("y:1000*1001/1000"), 1000);
        due("behind each sign, below 0", worth("y:[0-1000]*1001/1000"), -1000);
        due("far below 0", worth("y:[0-9999]*9999*9999"), -1000000);
        due("two far ones below 0", worth("y:[0-9999*9999]*[0-9999*9999]"), 1000000);
        due("a far sum", worth("y:9999*9999+9999*9999"), 1000000);
        due("999,999 stays", worth("y:1000*1000-1"), 999999);
        due("cuts towards 0", worth("y:9/10"), 0);
        due("cuts towards 0 from below", worth("y:[0-9]/10"), 0);
        due("cuts towards 0 by one below 0", worth("y:9/[0-10]"), 0);
        due("cuts towards 0, both below 0", worth("y:[0-19]/[0-10]"), 1);
        due("just so many times", worth("y:[0-20]/10"), -2);
        due("by 0 gives 0", worth("y:5/0"), 0);
        due("0 by 0 gives 0", worth("y:0/0"), 0);
        due("by 0 gives 0, then more", worth("y:5/0*3+2"), 2);
        due("0 without a CLAUSE that holds", worth("y:1=2?5"), 0);
        due("0 without, of two", worth("y:1=2?5;y:2<2?6"), 0);
        due("the first that holds", worth("y:1=2?5;y:1<2?6;y:7"), 6);
        due("not the first that holds alone", worth("y:1=2?5;y:6;y:7"), 6);
        due("= alone", worth("y:2=2?1"), 1);
        due("< not of alike ones", worth("y:2<2?1"), 0);
        due("> not of alike ones", worth("y:2>2?1"), 0);
        due("< by one", worth("y:2<3?1"), 1);
        due("> by one", worth("y:3>2?1"), 1);
        due("the other way", worth("y:3<2?1"), 0);
        due("the other way", worth("y:2>3?1"), 0);
        due("TRUTHS with | between, one of three", worth("y:1=2|1=1|1=2?1"), 1);
        due("TRUTHS with | between, the first", worth("y:1=1|1=2?1"), 1);
        due("TRUTHS with | between, the last", worth("y:1=2|1=2|1=1?1"), 1);
        due("TRUTHS with | between, none", worth("y:1=2|1=2|2=1?1"), 0);
        due("UNITS with & between, all", worth("y:1=1&2=2&3=3?1"), 1);
        due("UNITS with & between, not the first", worth("y:1=2&2=2&3=3?1"), 0);
        due("UNITS with & between, not the second", worth("y:1=1&2=1&3=3?1"), 0);
        due("UNITS with & between, not the last", worth("y:1=1&2=2&3=1?1"), 0);
        due("TRUTHS of UNITS", worth("y:1=2&1=1|1=1&2=2?1"), 1);
        due("TRUTHS of UNITS", worth("y:1=2&1=1|1=1&2=1?1"), 0);
        due("of the bounds", worth("y:1000*1000=9999*9999?1"), 1);
        due("of the bounds below", worth("y:0-1000*1000=0-9999*9999-1?1"), 1);
        due("six !", worth("y:!!!!!!1=1?3"), 3);
        due("five !", worth("y:!!!!!1=1?3"), 0);
        due("six (", worth("y:((((((1=1))))))?3"), 3);
        due("six [", worth("y:[[[[[[3]]]]]]"), 3);
    }

    static void newObject() {
        of("Promise 1");
        Supplier<SlateSum> none = SlateSum::new;
        refused("no SLATE: answers", none, s -> s.answers(NONE), NONE);
        refused("no SLATE: answers(0)", none, s -> s.answers(0), NONE);
        refused("no SLATE: at", none, s -> at(s, 0, 0), NO_PLACE);
        refused("no SLATE: wide", none, s -> s.wide(0), NONE);
        refused("no SLATE: tell", none, s -> s.tell(0, 0, 0), NONE);
        refused("no SLATE: rub", none, s -> s.rub(0, 0), NONE);
        refused("no SLATE: undo", none, s -> s.undo(), NONE);
        refused("no SLATE: can", none, s -> s.can(0, 0), NONE);
        refused("no SLATE: sure", none, s -> s.sure(0, 0), NONE);
        for (int i = 0; i < 8; i++) due("no SLATE: letter", new SlateSum().letter(i), NONE);
        refused("no SLATE: known", none, s -> s.known(), NONE);
        refused("no SLATE: wrong", none, s -> s.wrong(), HIDDEN);
        for (int what = 0; what < 2; what++) {
            due("no SLATE: best", new SlateSum().best(what), NONE);
            due("no SLATE: cheap", new SlateSum().cheap(what), HIDDEN);
            due("no SLATE: mean", new SlateSum().mean(what), NONE);
        }
        for (int n = 0; n < 3; n++) due("no SLATE: looks", new SlateSum().looks(n), NONE);
        refused("no SLATE: slip", none, s -> s.slip(NONE), NONE);
        refused("no SLATE: slip(0)", none, s -> s.slip(0), NONE);
        refused("no SLATE: thumb", none, s -> s.thumb(0), NONE);
        refused("no SLATE: mend", none, s -> s.mend(), NONE);
        refused("no SLATE: lean", none, s -> s.lean(NONE), HIDDEN);
        refused("no SLATE: lean(0)", none, s -> s.lean(0), HIDDEN);
        refused("no SLATE: heart", none, s -> s.heart(), NONE);
        refused("no SLATE: drawn", none, s -> s.drawn(1, 0), NONE);
        refused("no SLATE: image", none, s -> s.image(), NONE);
        refused("no SLATE: back", none, s -> s.back(), NONE);
        refused("no SLATE: unlike", none, s -> s.unlike(), NONE);
        due("no SLATE: count(0)", new SlateSum().count(0), NONE);
        for (int what = 1; what < 10; what++) due("no SLATE: count(" + what + ")", new SlateSum().count(what), 0);
    }

    static void feeding() {
        of("Promise 2");
        SlateSum s = new SlateSum();
        due("bytes of 0 are left out, all of them", s.feed(0, 0, 0, 0, 0), 0);
        due("twenty bytes", s.feed(-1, -1, -1, -1, -1), 20);
        due("of a number just the highest", s.feed(0x74000000, 0, 0, 0, 0), 21);
        due("of a number just the second", s.feed(0, 0x740000, 0, 0, 0), 22);
        due("of a number just the third", s.feed(0, 0, 0x7400, 0, 0), 23);
        due("of a number just the last", s.feed(0, 0, 0, 0x74, 0), 24);
        due("of the last number", s.feed(0, 0, 0, 0, 0x80000000), 25);
        due("all but one byte of 0", s.feed(0x00FFFFFF, -1, -1, -1, -1), 44);
        s = new SlateSum();
        s.feed(0x00730000, 0x3B003100, 0x3B32, 0x3B000000, 0x33);
        due("the highest first, bytes of 0 left out", s.text(0), 3);
        due("the highest first, bytes of 0 left out:", rows(s), "1;2;3");
        Supplier<SlateSum> full = () -> fullTape("t;1;2;3");
        due("160 bytes, just so many", full.get().count(8), 160);
        due("none more at 160", full.get().feed(0, 0, 0, 0, 0), 160);
        refused("161 bytes", full, t -> t.feed(1, 0, 0, 0, 0), NONE);
        refused("161 bytes, the last one", full, t -> t.feed(0, 0, 0, 0, 1), NONE);
        for (int i = 0; i < 20; i++) {
            int[] n = new int[5];
            n[i / 4] = 255 << 8 * (i % 4);
            refused("161 bytes, by each byte", full, t -> t.feed(n[0], n[1], n[2], n[3], n[4]), NONE);
            due("each byte counts", new SlateSum().feed(n[0], n[1], n[2], n[3], n[4]), 1);
        }
        refused("180 bytes", full, t -> t.feed(-1, -1, -1, -1, -1), NONE);
        Supplier<SlateSum> nearly = () -> { SlateSum t = fullTape("t;1;2;3"); t.end(150); return t; };
        due("ten more to 160", nearly.get().feed(0x20202020, 0x20202020, 0x20200000, 0, 0), 160);
        due("ten more to 160 among bytes of 0", nearly.get().feed(0x20002000, 0x20002000, 0x20002000, 0x20002000, 0x20002000), 160);
        refused("eleven more", nearly, t -> t.feed(0x20202020, 0x20202020, 0x20202000, 0, 0), NONE);
    }

    static void ending() {
        of("Promise 3");
        due("first 0 bytes of none", new SlateSum().end(0), true);
        Supplier<SlateSum> some = BoundaryTests::busy;
        for (int n : new int[] {-1, -2, MIN, 6, 160, 161, MAX}) refused("False: end(" + n + ") of 5 bytes", some, s -> one(s.end(n)), 0);
        refused("False: end(1) of none", SlateSum::new, s -> one(s.end(1)), 0);
        refused("False: end(161) of 160", () -> fullTape("t"), s -> one(s.end(161)), 0);
        due("end(160) of 160", fullTape("t").end(160), true);
        for (int n = 0; n <= 5; n++) {
            SlateSum s = busy();
            due("end(n), up to all", s.end(n), true);
            due("its first n bytes alone", s.count(8), n);
            due("its first n bytes", s.fault(0), n);
        }
        SlateSum s = fullTape("t;1;2;34");
        s.end(7);
        due("the next byte comes behind the first n", type(s, "5"), 8);
        s.text(0);
        due("the first n bytes and the next:", rows(s), "1;2;35");
        for (int n = 1; n < 7; n++) {
            s = fullTape("t;1;2;3");
            s.end(n);
            due("what is behind the first n is not read", s.fault(0), n);
            s = fullTape("y" + times(" ", 100));
            s.end(n);
            due("blanks behind the first n are not read", s.fault(1), n);
            s = fullTape("y:1234567");
            s.end(n);
            due("digits behind the first n are not read", s.fault(1), n > 2 ? NONE : n);
        }
    }

    static void faults() {
        of("Promise 4");
        for (int sort : new int[] {-1, -2, 2, 3, MIN, MAX}) refused("-2: no such sort " + sort, BoundaryTests::busy, s -> s.fault(sort), -2);
        due("of an empty TAPE as a SLATE", new SlateSum().fault(0), 0);
        due("of an empty TAPE as a COST", new SlateSum().fault(1), 0);
        due("NONE of a full TAPE as a SLATE", fullTape("t;1;2;3").fault(0), NONE);
        due("NONE of a full TAPE as a COST", fullTape("y:3").fault(1), NONE);
        due("of a full TAPE that ends too early", fullTape("t;1;2;").fault(0), 160);
        due("of a full TAPE that ends too early", fullTape("y:3;").fault(1), 160);
        due("a SLATE as a COST", fullTape("t;1;2;3").fault(1), 0);
        due("a COST as a SLATE", fullTape("y:3").fault(0), 0);
        refused("a FAULT looked for", BoundaryTests::busy, s -> s.fault(0), 5);
        refused("a FAULT looked for", BoundaryTests::busy, s -> s.fault(1), 0);
        slateFault("tb1", 2);
        slateFault("tb1;", 2);
        slateFault("tb11", 3);
        slateFault("tb00", 3);
        slateFault("tb000", 4);
        slateFault("tb999", 4);
        slateFault("tb1000", 4);
        slateFault("t;1;2;3;", 7);
        slateFault("t;1;22;3;4;5;", 12);
        slateFault("d;1;2;3;4;5;", 11);
        slateFault("d;1;2;33;4;5;6;7;", 16);
    }

    static void texts() {
        of("Promise 5");
        Supplier<SlateSum> busy = BoundaryTests::busy;
        refused("NONE: a FAULT of a SLATE", busy, s -> s.text(0), NONE);
        refused("NONE: a FAULT of a COST", busy, s -> s.text(1), NONE);
        for (int sort : new int[] {-1, 2, MIN, MAX}) refused("NONE: no such sort " + sort, () -> fullTape("t;1;2;3"), s -> s.text(sort), NONE);
        refused("NONE: an empty TAPE", SlateSum::new, s -> s.text(0), NONE);
        refused("NONE: an empty TAPE", SlateSum::new, s -> s.text(1), NONE);
        Supplier<SlateSum> four = () -> {
            SlateSum s = busy();
            s.end(0);
            withCosts(s, "y:3", "y:4");
            type(s, "y:5");
            return s;
        };
        due("four COSTS", four.get().count(7), 4);
        refused("NONE: there are four COSTS", four, s -> s.text(1), NONE);
        refused("NONE: there are four COSTS, and a COST is no SLATE", four, s -> s.text(0), NONE);
        SlateSum s = new SlateSum();
        for (int i = 0; i < 4; i++) {
            type(s, "y:" + i);
            due("a COST: its number", s.text(1), i);
            due("the TAPE is empty then", s.count(8), 0);
        }
        s = busy();
        s.end(0);
        type(s, "y:7");
        due("a third COST", s.text(1), 2);
        due("a COST leaves the SLATE, ACTS, the IMAGE, the COST that holds:", rows(s) + s.count(9) + s.unlike() + s.cheap(1), "14;8;b231-1000000");
        s = four.get();
        s.end(0);
        type(s, "d;**;*;***;*;*;*;*;*;*");
        due("nine ROWS", s.text(0), 9);
        due("the TAPE is empty then", s.count(8), 0);
        due("ACTS are gone", s.count(9), 0);
        due("no ACT can be undone", s.undo(), NONE);
        due("the IMAGE of another one is gone", s.unlike(), NONE);
        due("it is not back", s.back(), NONE);
        due("COSTS stay", s.count(7), 4);
        type(s, "m;1*;*;**");
        s.text(0);
        due("the COST that holds stays: 10 FIGURES at the place 0 of Y", s.cheap(1), 10);
        s = fullTape("t;1;2;3");
        due("a full TAPE as a SLATE", s.text(0), 3);
        due("is empty then", s.count(8), 0);
        due("and takes twenty bytes", s.feed(-1, -1, -1, -1, -1), 20);
        s = fullTape("y:[7-2]*3");
        due("a full TAPE as a COST", s.text(1), 2);
        type(s, "m;1*;*;**");
        s.text(0);
        s.cost(2);
        due("holds", s.cheap(1), 15);
    }

    static void places() {
        of("Promises 6 and 7");
        SlateSum s = slate("db7;123456;0*;abc;d;ef;gh1;2345;66666;*");
        int[] widths = {6, 2, 3, 1, 2, 3, 4, 5, 1};
        for (int row = 0; row < 9; row++) {
            due("FIGURES of a ROW, 1 .. 6", s.wide(row), widths[row]);
            due("the last place", at(s, row, widths[row] - 1) >= 0, true);
            for (int place : new int[] {-1, MIN, widths[row], widths[row] + 1, 6, MAX}) due("no such place", at(s, row, place), NO_PLACE);
        }
        for (int row : new int[] {-1, MIN, 9, 10, MAX}) {
            due("no such ROW", s.wide(row), NONE);
            for (int place : new int[] {-1, 0, 6, MIN, MAX}) due("no such ROW", at(s, row, place), NO_PLACE);
        }
        due("all signs:", rows(s), "123456;0*;abc;d;ef;gh1;2345;66666;*");
        due("the first FIGURE is 0", at(s, 1, 0), 0);
        due("lost", at(s, 1, 1), 10);
        due("the first letter", at(s, 2, 0), 11);
        due("the last letter", at(s, 5, 1), 18);
        due("a FIGURE of 9", at(slate("s;9;9;9"), 2, 0), 9);
        due("no ROW behind the third", at(slate("s;9;9;9"), 3, 0), NO_PLACE);
        due("no ROW behind the third", slate("s;9;9;9").wide(3), NONE);
        type(s, "s;9;9;9");
        s.text(0);
        due("nor of a larger SLATE ahead", at(s, 3, 0), NO_PLACE);
        due("nor its places", at(s, 0, 1), NO_PLACE);
        due("nor its ROWS", s.wide(3), NONE);
    }

    static void costs() {
        of("Promise 8");
        Supplier<SlateSum> busy = () -> { SlateSum s = busy(); s.rub(0, 1); return s; };
        for (int cost : new int[] {-2, MIN, 2, 3, 4, MAX}) refused("False: no such COST " + cost, busy, s -> one(s.cost(cost)), 0);
        due("NONE of none", new SlateSum().cost(NONE), true);
        refused("False: none is there", SlateSum::new, s -> one(s.cost(0)), 0);
        SlateSum s = withCosts(slate("m;1*;*;**"), "y:11", "y:12", "y:13", "y:14");
        due("none holds at first", s.cheap(1), 0);
        for (int i = 0; i < 4; i++) {
            due("the COST that holds", s.cost(i), true);
            due("its WORTH", s.cheap(1), 11 + i);
        }
        due("a fifth one", s.cost(4), false);
        due("the fourth still holds", s.cheap(1), 14);
        due("NONE: none", s.cost(NONE), true);
        due("0 for each", s.cheap(1), 0);
    }

    static void telling() {
        of("Promise 9");
        Supplier<SlateSum> busy = BoundaryTests::busy;
        refused("NONE: one is told there", busy, s -> s.tell(0, 0, 5), NONE);
        refused("NONE: one is told there, the same", busy, s -> s.tell(0, 0, 1), NONE);
        refused("NONE: one is told there by an ACT", busy, s -> s.tell(1, 0, 3), NONE);
        for (int row : new int[] {-1, MIN, 3, MAX}) refused("NONE: no such ROW", busy, s -> s.tell(row, 0, 5), NONE);
        for (int place : new int[] {-1, MIN, 2, 6, MAX}) refused("NONE: no such place", busy, s -> s.tell(2, place, 5), NONE);
        for (int figure : new int[] {-1, MIN, 10, 11, MAX}) refused("NONE: no such FIGURE", busy, s -> s.tell(2, 0, figure), NONE);
        for (int base = 4; base <= 10; base++) {
            String text = "sb" + base + ";*;a;1";
            int over = base;
            refused("NONE: a FIGURE not below BASE", () -> slate(text), s -> s.tell(0, 0, over), NONE);
            SlateSum s = slate(text);
            due("the largest FIGURE", s.tell(0, 0, base - 1), 1);
            due("the least FIGURE", s.tell(1, 0, 0), 2);
            due("stand there:", rows(s), base - 1 + ";0;1");
        }
        SlateSum s = slate("s;*;*;3");
        for (int n = 1; n <= 50; n++) {
            due("40 at most", s.tell(0, 0, n % 10), Math.min(40, 2 * n - 1));
            due("40 at most", s.rub(0, 0), Math.min(40, 2 * n));
        }
    }

    static void rubbing() {
        of("Promise 10");
        Supplier<SlateSum> busy = () -> { SlateSum s = busy(); s.rub(1, 0); return s; };
        refused("NONE: it is lost", busy, s -> s.rub(1, 0), NONE);
        for (int row : new int[] {-1, MIN, 3, MAX}) refused("NONE: no such ROW", busy, s -> s.rub(row, 0), NONE);
        for (int place : new int[] {-1, MIN, 2, 6, MAX}) refused("NONE: no such place", busy, s -> s.rub(0, place), NONE);
        SlateSum s = slate("s;0;h;9");
        due("a 0", s.rub(0, 0), 1);
        due("a letter", s.rub(1, 0), 2);
        due("a 9", s.rub(2, 0), 3);
        due("all lost:", rows(s), "*;*;*");
        due("none is left to rub out", s.rub(0, 0) + s.rub(1, 0) + s.rub(2, 0), -3);
    }

    static void undoing() {
        of("Promise 11");
        refused("NONE: none", () -> slate("s;1;*;a"), s -> s.undo(), NONE);
        for (int acts = 1; acts <= 45; acts++) {
            SlateSum s = slate("s;*;a;1");
            for (int n = 1; n <= acts; n++) due("an ACT", n % 2 == 1 ? s.tell(0, 0, n % 10) : s.rub(0, 0), Math.min(n, 40));
            for (int n = acts - 1; n >= Math.max(0, acts - 40); n--) {
                due("how many still can be", s.undo(), n - Math.max(0, acts - 40));
                due("as it was", at(s, 0, 0), n % 2 == 0 ? 10 : n % 10);
            }
            due("NONE: none any more", s.undo(), NONE);
            due("as it was ahead of the latest 40", at(s, 0, 0), acts <= 40 ? 10 : (acts - 40) % 2 == 0 ? 10 : (acts - 40) % 10);
        }
        SlateSum s = slate("s;*;a;1");
        for (int n = 0; n < 39; n++) due("39 ACTS", n % 2 == 0 ? s.tell(0, 0, 1) : s.rub(0, 0), n + 1);
        due("the 40th: a letter", s.rub(1, 0), 40);
        due("the 41st", s.tell(1, 0, 7), 40);
        due("undone", s.undo(), 39);
        due("undone", s.undo(), 38);
        due("the letter stands there again", at(s, 1, 0), 11);
        due("another 40th", s.tell(1, 0, 3), 39);
        due("a told one rubbed out", s.rub(2, 0), 40);
        due("told anew", s.tell(2, 0, 9), 40);
        due("undone", s.undo(), 39);
        due("lost", at(s, 2, 0), 10);
        due("undone", s.undo(), 38);
        due("told", at(s, 2, 0), 1);
        due("undone", s.undo(), 37);
        due("a letter", at(s, 1, 0), 11);
    }

    static void answers() {
        of("Promise 12");
        SlateSum s = slate("s;***;**;***");
        due("how many", s.answers(NONE), 76095);
        due("the first", s.answers(0), 10010);
        due("the second: by X, then by Y", s.answers(1), 10011);
        due("the last with X = 100", s.answers(89), 10099);
        due("then the next X", s.answers(90), 10110);
        due("the last one", s.answers(76094), 98910);
        for (int i : new int[] {76095, -2, MIN, MAX}) refused("NONE: no such one", () -> slate("s;*;*;3"), t -> t.answers(i), NONE);
        due("NONE: no such one", s.answers(76095), NONE);
        s = slate("s;***;**;****");
        due("sums of four FIGURES", s.answers(NONE), 4905);
        due("the first of them", s.answers(0), 90199);
        due("the last of them", s.answers(4904), 99999);
        s = slate("t;***;*;***");
        due("products of three FIGURES", s.answers(NONE), 1931);
        due("the last of them", s.answers(1930), 99901);
        s = slate("t;***;**;****;****;*****");
        due("all at their longest", s.answers(s.answers(NONE) - 1), 99999);
        s = slate("tb4;***;**;***;***;******");
        due("none: 333 by 33 has five FIGURES in BASE 4", s.answers(NONE), 0);
        due("none: no first one", s.answers(0), NONE);
        due("a ROW of six", slate("s;*;*;******").answers(NONE), 0);
        s = slate("s;0;0;0");
        due("0 and 0", s.answers(NONE), 1);
        due("0 and 0 as a number", s.answers(0), 0);
        due("0 and 0, no second one", s.answers(1), NONE);
        due("no number of more than one begins with 0, X", slate("s;0*;*;**").answers(NONE), 0);
        due("no number of more than one begins with 0, Y", slate("s;**;0*;**").answers(NONE), 0);
        due("no number of more than one begins with 0, a sum", slate("m;**;**;0*").answers(NONE), 0);
        due("0 alone may be", slate("m;**;**;0").answers(NONE), 90);
        due("0 times: one FIGURE", slate("t;**;*0;0;**;**0").answers(NONE), slate("t;**;*;**").answers(NONE));
        due("0 times: not two", slate("t;**;*0;00;**;**0").answers(NONE), 0);
        due("X of 0", slate("t;0;**;0;0;0").answers(NONE), 90);
        due("Y of 0", slate("t;***;0;0").answers(NONE), 900);
        due("in m Y is no more than X", slate("m;5;*;*").answers(NONE), 6);
        due("in m Y as X", slate("m;5;*;0").answers(0), 505);
        due("in m Y above X", slate("m;5;6;*").answers(NONE), 0);
        due("in m 0 less 0", slate("m;0;*;*").answers(NONE), 1);
        due("in d Y is not 0", slate("d;*;0;*;*;*").answers(NONE), 0);
        due("in d Y is not 0, X is", slate("d;0;*;0;0;0").answers(NONE), 9);
        due("in d REST below Y", slate("dr8;*;*;0;0;8").answers(0), 9);
        due("in d REST below Y, one Y alone", slate("dr8;*;*;0;0;8").answers(NONE), 1);
        due("in d REST as Y", slate("dr8;*;8;0;0;8").answers(NONE), 0);
        due("in d a REST of 9 below no Y of one FIGURE", slate("dr9;**;*;1;*;9").answers(NONE), 0);
        due("in d a REST of 9 below Y of two", slate("dr9;**;**;1;**;9").answers(0), 110);
        due("in d a REST of 98", slate("dr98;***;**;1;**;98").answers(0), 199);
        due("in d a REST of 99", slate("dr99;***;**;1;**;99").answers(NONE), 0);
        due("in d a REST told to the base 10", slate("db4r15;**;**;0;0;**").answers(NONE), 0);
        due("in d a REST told to the base 10", slate("db4r14;**;**;0;0;32").answers(0), 15);
        due("in d all at their longest", slate("d;98901;99;999;891;980;891;891;891;0").answers(0), 99999);
        due("unlike letters: eight in BASE 10", slate("t;abc;d;efgh").answers(NONE) > 0, true);
        due("unlike letters: more than BASE has FIGURES", slate("sb4;abc;de;***").answers(NONE), 0);
        due("unlike letters: as many as BASE has FIGURES", slate("sb4;abc;d*;***").answers(NONE) > 0, true);
    }

    static void canBe() {
        of("Promises 13 and 14");
        SlateSum s = slate("s;*;*;**");
        due("each FIGURE but 0", s.can(0, 0), 1022);
        due("just one", s.can(2, 0), 2);
        due("0 .. 8", s.can(2, 1), 511);
        due("each FIGURE", slate("s;*;0;*").can(0, 0), 1023);
        due("each FIGURE of BASE 4", slate("sb4;*;0;*").can(0, 0), 15);
        due("one told", slate("s;*;0;*").can(1, 0), 1);
        due("one told, 9", slate("s;9;*;9").can(0, 0), 512);
        due("each FIGURE behind a place that can be 9", slate("s;***;0;***").can(0, 1), 1023);
        due("SURE: 0", slate("s;9;*;9").sure(1, 0), 0);
        due("SURE: 9", slate("s;*;0;9").sure(0, 0), 9);
        due("not SURE", slate("s;*;0;*").sure(0, 0), NONE);
        due("not SURE of two", slate("t;7;*;*").sure(1, 0), NONE);
        due("two", slate("t;7;*;*").can(1, 0), 3);
        due("no ANSWER: no FIGURE", slate("s;1;1;*3").can(2, 0), 0);
        due("no ANSWER: no FIGURE of a told one", slate("s;1;1;*3").can(0, 0), 0);
        due("NONE: no ANSWER", slate("s;1;1;*3").sure(2, 0), NONE);
        due("NONE: no ANSWER of a told one", slate("s;1;1;*3").sure(0, 0), NONE);
        for (int row : new int[] {-1, MIN, 3, MAX}) {
            due("NONE: no such ROW", s.can(row, 0), NONE);
            due("NONE: no such ROW", s.sure(row, 0), NONE);
        }
        for (int place : new int[] {-1, MIN, 2, 6, MAX}) {
            due("NONE: no such place", s.can(2, place), NONE);
            due("NONE: no such place", s.sure(2, place), NONE);
        }
        due("NONE: no such place of a shorter ROW", s.can(0, 1), NONE);
        due("NONE: no such place of a shorter ROW", slate("s;1;1;*").sure(0, 1), NONE);
    }

    static void lettersAndKnown() {
        of("Promise 15");
        SlateSum s = slate("s;*;h;9");
        due("the last letter", s.letter(7), 1023);
        due("NONE: not on the SLATE", s.letter(0), NONE);
        due("NONE: not on the SLATE", s.letter(6), NONE);
        for (int letter : new int[] {-1, -2, MIN, 8, 9, MAX}) due("NONE: no such one", s.letter(letter), NONE);
        s.rub(1, 0);
        due("NONE: no more on the SLATE", s.letter(7), NONE);
        s.undo();
        s.tell(1, 0, 4);
        due("NONE: told, no more on the SLATE", s.letter(7), NONE);
        due("the first letter", slate("s;a;9;9").letter(0), 1);
        due("no ANSWER: no FIGURE", slate("s;a;a;9").letter(0), 0);
        due("alike letters: told at one place, the other stays", slate("m;a;a;0").letter(0), 1023);
        of("Promise 16");
        due("none lost, no letter", slate("s;1;1;2").known(), 0);
        due("all of them", slate("m;*;a;9").known(), 2);
        due("letters by their places", slate("m;a;a;0").known(), 0);
        due("8 and 9 or 9 and 8", slate("s;a;b;17").known(), 0);
        due("a letter at three places, and a lost one", slate("s;aa;a;*0").known(), 4);
        due("five ways", slate("s;5a;a;6*").known(), 0);
        due("the sum's first alone", slate("s;*;*;**").known(), 1);
        due("NONE: no ANSWER", slate("s;1;1;*3").known(), NONE);
        due("NONE: no ANSWER of a full one", slate("s;1;1;3").known(), NONE);
    }

    /** X and Y as told and a ROW all lost: an ANSWER by its own length alone. */
    static void byLengthAlone(String head, String[] rows, int row, int length, boolean own) {
        String was = rows[row];
        rows[row] = times("*", length);
        due("just so many FIGURES as told: " + String.join(";", rows), slate(head + ";" + String.join(";", rows)).answers(NONE), own ? 1 : 0);
        rows[row] = was;
    }

    /** Every ROW that X and Y do not tell: one FIGURE too few, too many, and each place otherwise. */
    static void eachPlaceWrong(String head, String told, int rowOfX) {
        String[] rows = told.split(";");
        due("none, if it is right: " + told, slate(head + ";" + told).wrong(), NONE);
        for (int row = 0; row < rows.length; row++) {
            String was = rows[row];
            for (int place = 0; place < was.length(); place++) {
                rows[row] = was.substring(0, place) + "*" + was.substring(place + 1);
                due("HIDDEN: a lost one", slate(head + ";" + String.join(";", rows)).wrong(), HIDDEN);
                rows[row] = was.substring(0, place) + "h" + was.substring(place + 1);
                due("HIDDEN: a letter", slate(head + ";" + String.join(";", rows)).wrong(), HIDDEN);
                rows[row] = was.substring(0, place) + (was.charAt(place) == '0' ? "1" : "0") + was.substring(place + 1);
                if (row == rowOfX || row == 1) continue;
                SlateSum otherwise = slate(head + ";" + String.join(";", rows));
                due("the place otherwise: " + String.join(";", rows), otherwise.wrong(), 10 * row + place);
                due("no ANSWER by it: " + String.join(";", rows), otherwise.answers(NONE), 0);
                due("one digit has to be lost: " + String.join(";", rows), otherwise.mend(), 1);
            }
            if (row != rowOfX && row != 1) {
                for (int length = 1; length <= 6; length++) byLengthAlone(head, rows, row, length, length == was.length());
                for (String other : new String[] {"0" + was, was + "0", "111111"}) {
                    rows[row] = other;
                    due("a ROW too long: " + String.join(";", rows), slate(head + ";" + String.join(";", rows)).wrong(), 10 * row);
                }
                rows[row] = was.substring(1);
                if (was.length() > 1) due("a ROW too short: " + String.join(";", rows), slate(head + ";" + String.join(";", rows)).wrong(), 10 * row);
            }
            rows[row] = was;
        }
    }

    static void wrongOnes() {
        of("Promise 17");
        eachPlaceWrong("t", "999;9;8991", 0);
        eachPlaceWrong("t", "999;99;8991;8991;98901", 0);
        eachPlaceWrong("t", "12;30;0;36;360", 0);
        eachPlaceWrong("tb4", "333;33;2331;2331;32301", 0);
        eachPlaceWrong("d", "98901;99;999;891;980;891;891;891;0", 2);
        eachPlaceWrong("dr3", "11;4;2;8;3", 2);
        eachPlaceWrong("dr98", "98;99;0;0;98", 2);
        eachPlaceWrong("db4r14", "32;33;0;0;32", 2);
        eachPlaceWrong("s", "999;99;1098", 0);
        eachPlaceWrong("s", "0;0;0", 0);
        eachPlaceWrong("sb5", "444;44;1043", 0);
        eachPlaceWrong("m", "100;99;1", 0);
        eachPlaceWrong("m", "99;99;0", 0);
        due("of several the first ROW", slate("t;12;14;49;13;169").wrong(), 21);
        due("of several the first ROW", slate("t;12;14;48;13;169").wrong(), 31);
        due("of a ROW its length first", slate("t;12;14;999;12;168").wrong(), 20);
        due("the last place of all", slate("t;12;14;48;12;169").wrong(), 42);
        due("X begins with 0", slate("t;01;1;1").wrong(), 0);
        due("Y begins with 0", slate("t;1;01;1;0;1").wrong(), 0);
        due("X of three begins with 0", slate("s;099;1;100").wrong(), 0);
        due("X of 0 alone stands", slate("s;0;1;1").wrong(), NONE);
        due("Y of 0 alone stands", slate("s;1;0;1").wrong(), NONE);
        due("in m Y above X by one", slate("m;8;9;1").wrong(), 0);
        due("in m Y as X", slate("m;9;9;0").wrong(), NONE);
        due("in m Y above X, of more FIGURES", slate("m;9;10;1").wrong(), 0);
        due("in d Y as REST", slate("dr4;12;4;2;8;4").wrong(), 20);
        due("in d Y above REST by one", slate("dr4;14;5;2;10;4").wrong(), NONE);
        due("in d Y is 0", slate("d;0;0;0;0;0").wrong(), 20);
        due("in d Y is 0, ahead of the number divided", slate("d;123456;0;9;1;1").wrong(), 20);
        due("in d X begins with 0, ahead of the number divided", slate("d;123456;3;02;1;1;1;1").wrong(), 20);
        due("in d Y begins with 0, ahead of the number divided", slate("d;123456;03;2;1;1").wrong(), 20);
        due("in d X of 0 alone stands", slate("d;0;3;0;0;0").wrong(), NONE);
        due("in d a REST of two FIGURES told to the base 10", slate("db5r7;12;13;0;0;12").wrong(), NONE);
    }

    static void lookingFirst() {
        of("Promise 18");
        for (int what : new int[] {-1, -2, MIN, 2, MAX}) {
            due("NONE: no such what", slate("s;*;*;3").best(what), NONE);
            due("NONE: no such part", slate("s;*;*;3").mean(what), NONE);
            due("HIDDEN: no such what", slate("s;*;*;3").cheap(what), HIDDEN);
        }
        for (int what = 0; what < 2; what++) {
            due("NONE: nothing is lost, no letters", slate("s;1;1;2").best(what), NONE);
            due("NONE: no ANSWER", slate("s;1;1;*3").best(what), NONE);
            due("NONE: nothing is lost, no ANSWER", slate("s;1;1;3").best(what), NONE);
            due("as for BEST: nothing is lost, no letters", slate("s;1;1;2").mean(what), NONE);
            due("as for BEST: no ANSWER", slate("s;1;1;*3").mean(what), NONE);
            due("as for BEST: nothing is lost, no ANSWER", slate("s;1;1;3").mean(what), NONE);
            due("HIDDEN: no place can have two", slate("s;1;1;*").cheap(what), HIDDEN);
            due("HIDDEN: nothing is lost", slate("s;1;1;2").cheap(what), HIDDEN);
            due("HIDDEN: no ANSWER", slate("s;1;1;*3").cheap(what), HIDDEN);
        }
        due("one lost, one ANSWER", slate("s;1;1;*").best(0), 20);
        due("one is left", slate("s;1;1;*").best(1), 1);
        due("a letter alone", slate("s;1;1;h").best(0), 20);
        due("of several the first", slate("s;*;*;9").best(0), 0);
        due("of several the first, the sum told", slate("s;*;*;9").best(1), 1);
        due("the last place of all", slate("s;1*;1;1*").best(0), 1);
        due("ahead of a told 0", slate("s;*0;0;*0").best(1), 1);
        due("the most are left by a 0: nought times 0 .. 9", slate("t;*;*;0").best(1), 10);
        due("100 and nine of 19", slate("t;*;*;0").mean(0), 109);
        due("by 19", slate("t;*;*;0").mean(1), 19);
        due("a SURE one ahead leaves all", slate("s;*;9;1*").best(0), 0);
        due("a SURE one ahead leaves all, of m", slate("m;**;1;9*").best(0), 1);
        due("of m nine", slate("m;**;1;9*").best(1), 1);
        SlateSum s = slate("t;7;*;*");
        due("two ANSWERS", s.best(0), 10);
        due("one is left of two", s.best(1), 1);
        of("Promise 20");
        due("one of one: 1", slate("s;1;1;*").mean(0), 1);
        due("one of one: by 1", slate("s;1;1;*").mean(1), 1);
        due("two by 2, made plain", s.mean(0), 1);
        due("two by 2, made plain", s.mean(1), 1);
        due("285 by 45, made plain", slate("s;*;*;1*").mean(0), 19);
        due("285 by 45, made plain", slate("s;*;*;1*").mean(1), 3);
        due("39 by 8, from 156 by 32", slate("s;a;b;c").mean(0) * 100 + slate("s;a;b;c").mean(1), 3908);
        s = slate("s;***;0;***");
        due("900: 90 left by the last place", s.best(0) * 1000 + s.best(1), 1090);
        due("just 90", s.mean(0), 90);
        due("by 1", s.mean(1), 1);
        s = slate("t;***;*;***");
        due("of the largest slates", s.answers(NONE), 1931);
    }

    static void cheapest() {
        of("Promise 19");
        SlateSum s = withCosts(slate("m;1*;*;**"), "y:0-1000*1000", "y:1000*1000", "y:k");
        due("none: 0, of several the first", s.cheap(0), 1);
        due("none: 0", s.cheap(1), 0);
        s.cost(0);
        due("the least WORTH of all is one", s.cheap(0), 1);
        due("the least WORTH of all", s.cheap(1), -1000000);
        s.cost(1);
        due("the largest WORTH of all is one", s.cheap(0), 1);
        due("the largest WORTH of all", s.cheap(1), 1000000);
        s.cost(2);
        due("k of ten, of several the first", s.cheap(0), 1);
        due("k of ten", s.cheap(1), 10);
        s = withCosts(slate("t;*;7*;*;*;**"), "y:k", "y:0-r", "y:r*100+p*10-n", "y:l");
        // 1 by 70 .. 79: X and 7 are SURE, so are the 7 below and the first of the product.
        due("1 by 70 .. 79", s.answers(NONE), 10);
        due("two FIGURES or more: Y's last is the first such place", s.cheap(0), 11);
        s.cost(1);
        due("the last ROW is the least", s.cheap(0), 41);
        due("ROW", s.cheap(1), -4);
        s.cost(2);
        due("ROW, place, ROWS", s.cheap(1), 100 + 10 - 5);
        s.cost(3);
        due("the shorter ROW", s.cheap(0), 20);
        due("FIGURES of the ROW", s.cheap(1), 1);
        String[] letters = {"r", "p", "n", "l", "k"};
        int[] least = {1, 0, 5, 1, 10};
        int[] most = {4, 1, 5, 2, 10};
        for (int i = 0; i < 5; i++) {
            s = withCosts(slate("t;*;7*;*;*;**"), "y:" + letters[i], "y:0-" + letters[i]);
            s.cost(0);
            due("the least " + letters[i], s.cheap(1), least[i]);
            s.cost(1);
            due("the largest " + letters[i], s.cheap(1), -most[i]);
        }
        s = withCosts(slate("s;*;*;3"), "y:r=0?5");
        s.cost(0);
        due("0 without, behind a place that has 5", s.cheap(0), 10);
        due("0 without, behind a place that has 5", s.cheap(1), 0);
        s = withCosts(slate("t;7;*;*"), "y:0-k;y:1", "y:k=1?0-9;y:k");
        s.cost(0);
        due("just two FIGURES", s.cheap(0), 10);
        due("just two FIGURES", s.cheap(1), -2);
        s.cost(1);
        due("one FIGURE alone is no place to look at", s.cheap(1), 2);
        s = slate("s;*;*;1*");
        due("of several the first", s.cheap(0), 0);
        s.tell(0, 0, 9);
        due("a told one is left aside", s.cheap(0), 10);
        s.tell(1, 0, 9);
        due("HIDDEN: there is none any more", s.cheap(0), HIDDEN);
        due("HIDDEN: there is none any more", s.cheap(1), HIDDEN);
    }

    static void looks() {
        of("Promise 21");
        // 22 by 8, 42 by 9, 62 by 6, 72 by 8, 82 by 7, 92 by 3; then 21, 26 and 31 by 6: 126, 156, 186.
        due("by the first place alone", slate("t;*2;*;*7*").looks(1), 1);
        due("by the last place alone", slate("t;**;6;1*6").looks(1), 1);
        due("18 ANSWERS", slate("t;**;**;**;*05;****").answers(NONE), 18);
        due("18 ANSWERS, not by one LOOK", slate("t;**;**;**;*05;****").looks(1), 0);
        due("18 ANSWERS by the first place alone, then by others", slate("t;**;**;**;*05;****").looks(2), 1);
        for (int n : new int[] {-1, -2, MIN, 3, MAX}) due("NONE: out of bounds", slate("s;*;*;3").looks(n), NONE);
        for (int n = 0; n < 3; n++) {
            due("one ANSWER, nothing to be looked at", slate("s;1;1;2").looks(n), 1);
            due("one ANSWER, one place to be looked at", slate("s;1;1;*").looks(n), 1);
            due("NONE: no ANSWER", slate("s;1;1;*3").looks(n), NONE);
            due("two ANSWERS", slate("t;7;*;*").looks(n), n == 0 ? 0 : 1);
            due("ten ANSWERS", slate("s;*;0;*").looks(n), n == 0 ? 0 : 1);
            due("a hundred ANSWERS by two places", slate("s;9**;0;9**").looks(n), n == 2 ? 1 : 0);
            due("90 and nine more: a third LOOK", slate("s;***;0;1**").looks(n), n == 2 ? 1 : 0);
            due("200 ANSWERS", slate("t;4**;*;***").looks(n), 0);
            due("201 ANSWERS are too many", slate("sb6;5*c;*;***").looks(n), NONE);
            due("900 ANSWERS", slate("s;***;0;***").looks(n), NONE);
            due("4 by 3 and 3 by 4 and others", slate("t;*;*;12").looks(n), n == 0 ? 0 : 1);
        }
        // 2 by 9, 3 by 6, 4 by 7, 6 by 3 and 8, 7 by 4, 8 by 6, 9 by 2: no place is otherwise in all.
        due("eight ANSWERS, one LOOK too few", slate("t;*;*;*8").looks(1), 0);
        due("eight ANSWERS, two LOOKS", slate("t;*;*;*8").looks(2), 1);
        due("six ANSWERS, two LOOKS too few", slate("tb6;bc;*;a5*").looks(2), 0);
        due("16 ANSWERS, two LOOKS leave more just behind a 0", slate("t;*;**;*;**;*5*").looks(2), 0);
        due("12 ANSWERS, two LOOKS leave more just behind a 9", slate("t;*;**;**;*6;**6").looks(2), 0);
        due("200, just so many", slate("t;4**;*;***").answers(NONE), 200);
        due("201, just so many", slate("sb6;5*c;*;***").answers(NONE), 201);
    }

    static void slips() {
        of("Promise 22");
        SlateSum s = slate("t;5;0;0");
        int[] others = {0, 1, 2, 3, 4, 6, 7, 8, 9};
        due("all other digits below BASE", s.slip(NONE), 9);
        for (int i = 0; i < 9; i++) due("all other digits below BASE", s.slip(i), others[i]);
        for (int i : new int[] {9, 10, -2, MIN, MAX}) due("NONE: no such one", s.slip(i), NONE);
        due("in BASE 4", slate("tb4;3;0;0").slip(NONE), 3);
        due("in BASE 4, the last", slate("tb4;3;0;0").slip(2), 2);
        due("in BASE 4, no more", slate("tb4;3;0;0").slip(3), NONE);
        due("none of a right one", slate("s;1;1;2").slip(NONE), 0);
        due("NONE: no first one", slate("s;1;1;2").slip(0), NONE);
        due("none, if two are wrong", slate("t;12;14;99;12;168").slip(NONE), 0);
        due("none of lengths that no sum has", slate("s;1;1;123456").slip(NONE), 0);
        due("a lost one is no slip, 19 for 10 is", slate("s;*;1;19").slip(NONE), 1);
        due("19 for 10", slate("s;*;1;19").slip(0), 2010);
        due("a letter is no slip, 19 for 10 is", slate("s;h;1;19").slip(NONE), 1);
        due("lost ones are no slips", slate("s;*;*;**").slip(NONE), 0);
        due("the figure 0 of the last place", slate("s;5;5;19").slip(slate("s;5;5;19").slip(NONE) - 1), 2010);
        due("a first FIGURE is no 0", slate("s;1*;1;9").slip(NONE), 0);
        s = slate("d;98901;99;999;891;980;891;891;891;1");
        due("the last ROW of nine", s.slip(NONE), 1);
        due("1,000 times the ROW, 10 times the place, and the FIGURE", s.slip(0), 8000);
        s = slate("d;98901;99;999;891;980;891;891;889;0");
        due("two slips need two", s.slip(NONE), 0);
        s = slate("t;999;99;8991;8991;98903");
        due("the last place of a ROW of five", s.slip(0), 4041);
        due("letters bind", slate("s;a;b;0").slip(NONE), 9);
        due("letters bind: alike ones", slate("s;a;a;1").slip(NONE), 5);
    }

    static void thumbs() {
        of("Promise 23");
        SlateSum s = slate("s;1;1;3");
        for (int row = 0; row < 3; row++) due("a thumb over each ROW of a wrong one", s.thumb(row), 1);
        for (int row : new int[] {-1, MIN, 3, 4, MAX}) due("NONE: no such ROW", s.thumb(row), NONE);
        due("none by lengths", slate("s;1;1;33").thumb(2), 0);
        due("none by the other ROW", slate("s;9;1;3").thumb(1), 0);
        due("the last of nine ROWS", slate("d;98901;99;999;891;980;891;891;891;1").thumb(8), 1);
        due("NONE: a tenth ROW", slate("d;98901;99;999;891;980;891;891;891;1").thumb(9), NONE);
        due("other letters still bind", slate("s;a;a;b").thumb(2), 5);
        due("its own letters do not", slate("s;a;a;b").thumb(1), 45);
        due("lost already", slate("s;*;*;3").thumb(0), 4);
        due("nothing is rubbed out by it:", rows(s), "1;1;3");
    }

    static void mends() {
        of("Promise 24");
        due("none has to be lost", slate("s;1;1;2").mend(), 0);
        due("none has to be lost, all are", slate("s;*;*;*").mend(), 0);
        due("one", slate("s;1;1;3").mend(), 1);
        due("two", slate("s;11;11;33").mend(), 2);
        due("two of a longer one", slate("s;111;11;133").mend(), 2);
        due("NONE: three", slate("s;111;11;233").mend(), NONE);
        due("NONE: three", slate("t;12;14;99;99;168").mend(), NONE);
        due("NONE: by lengths never", slate("s;1;1;123456").mend(), NONE);
        due("NONE: by lengths never, all lost", slate("s;*;*;******").mend(), NONE);
        due("0 and 0 by letters", slate("s;a;a;a").mend(), 0);
        due("unlike letters never leave 0", slate("m;a;b;0").mend(), 1);
        due("NONE: more unlike letters than FIGURES", slate("sb4;abc;de;***").mend(), NONE);
        due("X begins with 0", slate("s;01;1;12").mend(), 1);
        due("X and Y begin with 0", slate("s;01;01;22").mend(), 2);
        due("in d Y of 0", slate("d;0;0;0;0;0").mend(), 1);
        due("in m Y above X", slate("m;1;2;1").mend(), 1);
    }

    static void leanest() {
        of("Promise 25");
        SlateSum s = slate("dr98;98;99;0;0;98");
        due("one sum by its lengths alone: none is left", s.lean(NONE), 0);
        due("NONE: no first one", s.lean(0), NONE);
        s = slate("s;12;9;21");
        for (int i : new int[] {3, 4, -2, MIN, MAX}) due("NONE: no such one", s.lean(i), NONE);
        due("the last one", s.lean(2), 21);
        due("ROWS from above: later ones are left", slate("s;0;0;0").lean(0), 20);
        due("the first place of all is left", slate("t;5;0;0").lean(0), 0);
        due("the first place of all and the last", slate("t;5;0;0").lean(1), 20);
        due("the first place of all and the last alone", slate("t;5;0;0").lean(NONE), 2);
        due("HIDDEN: a lost one", slate("s;12;9;2*").lean(NONE), HIDDEN);
        due("HIDDEN: a letter", slate("s;12;9;2a").lean(NONE), HIDDEN);
        due("HIDDEN: wrong at its last place", slate("s;12;9;22").lean(NONE), HIDDEN);
        due("HIDDEN: wrong, no such one", slate("s;12;9;22").lean(5), HIDDEN);
        due("HIDDEN: X begins with 0", slate("s;01;1;2").lean(NONE), HIDDEN);
        due("HIDDEN: in m Y above X", slate("m;1;2;1").lean(NONE), HIDDEN);
        due("HIDDEN: in d Y of 0", slate("d;0;0;0;0;0").lean(NONE), HIDDEN);
        s = slate("d;98901;99;999;891;980;891;891;891;0");
        int left = s.lean(NONE);
        due("of nine ROWS some are left", left > 0 && left < 26, true);
        SlateSum told = slate("d;*****;**;***;***;***;***;***;***;*");
        for (int i = 0; i < left; i++) told.tell(s.lean(i) / 10, s.lean(i) % 10, at(s, s.lean(i) / 10, s.lean(i) % 10));
        due("those left tell it", told.answers(NONE), 1);
        for (int i = 0; i < left; i++) {
            told.rub(s.lean(i) / 10, s.lean(i) % 10);
            due("and without one of them do not", told.answers(NONE) > 1, true);
            told.undo();
        }
        due("nothing is rubbed out by it:", rows(s), "98901;99;999;891;980;891;891;891;0");
    }

    static void byHeart() {
        of("Promise 26");
        due("one sum by its lengths alone", slate("dr98;**;**;*;*;**").heart(), 1);
        due("none by its lengths", slate("s;1;1;123456").heart(), 0);
        due("all sums of one FIGURE", slate("s;9;9;9").heart(), 55);
        due("letters do not bind", slate("s;a;a;a").heart(), 55);
        due("the largest", slate("s;999;99;1098").heart(), 4905);
        due("the largest", slate("s;100;10;110").heart(), 76095);
        due("all differences of one FIGURE", slate("m;1;1;1").heart(), 55);
        due("all products of one FIGURE", slate("t;1;1;1").heart(), 19 + 9 + 4 + 3 + 2 + 1 + 1 + 1 + 1 + 1);
        due("in BASE 4", slate("sb4;1;1;1").heart(), 10);
        SlateSum s = slate("s;*;*;*");
        due("sums of one FIGURE", s.heart(), 55);
        s.tell(0, 0, 1);
        due("whatever is told", s.heart(), 55);
        s.image();
        s.drawn(3, 0);
        due("9 and 3: sums of two FIGURES", s.heart(), 45);
        s.back();
        due("sums of one FIGURE again", s.heart(), 55);
    }

    static BigInteger draws;

    static int draw(int k) {
        draws = draws.multiply(new BigInteger("6364136223846793005")).add(new BigInteger("1442695040888963407")).mod(BigInteger.ONE.shiftLeft(64));
        return draws.shiftRight(33).mod(BigInteger.valueOf(k)).intValue();
    }

    static int drawnNumber(int figures, int base) {
        int number = 0;
        for (int n = 0; n < figures; n++) number = number * base + (n == 0 && figures > 1 ? draw(base - 1) + 1 : draw(base));
        return number;
    }

    static String num(int n, int base) {
        return Integer.toString(n, base);
    }

    static void oneDrawn(char kind, int base, int rest, int x, int y, long seed, int rub) {
        String head = kind + "b" + base + (kind == 'd' ? "r" + rest : "");
        String told = kind == 'd' ? ";*;" + times("*", y) + ";" + times("*", x) + times(";*", 2 * x)
            : ";" + times("*", x) + ";" + times("*", y) + times(";*", kind == 't' && y == 2 ? 3 : 1);
        draws = new BigInteger(Long.toUnsignedString(seed));
        int a = drawnNumber(x, base);
        int b = drawnNumber(y, base);
        String all;
        if (kind == 't') all = num(a, base) + ";" + num(b, base) + (y == 2 ? ";" + num(a * (b % base), base) + ";" + num(a * (b / base), base) : "") + ";" + num(a * b, base);
        else if (kind == 's') all = num(a, base) + ";" + num(b, base) + ";" + num(a + b, base);
        else if (kind == 'm') all = b > a ? null : num(a, base) + ";" + num(b, base) + ";" + num(a - b, base);
        else all = b <= rest ? null : divided(a, b, rest, base);
        SlateSum s = slate(head + told);
        s.tell(0, 0, 1);
        String what = "drawn(" + seed + ", " + rub + ") of " + head + told;
        if (all == null) {
            due(what + ": X, Y can't be", s.drawn(seed, rub), NONE);
            due(what + ": the slate stays as it is:", rows(s), told.substring(1).replaceFirst("[*]", "1"));
            due(what + ": ACTS can be undone", s.undo(), 0);
            return;
        }
        StringBuilder rubbed = new StringBuilder();
        int left = 0;
        for (char c : all.toCharArray()) {
            boolean out = c != ';' && draw(100) < rub;
            rubbed.append(out ? '*' : c);
            if (c != ';' && !out) left++;
        }
        due(what + ": how many places are told then", s.drawn(seed, rub), left);
        due(what + ":", rows(s), rubbed.toString());
        due(what + ": no ACT can be undone", s.undo(), NONE);
        if (rub == 0) due(what + ": is right", s.wrong(), NONE);
    }

    static String divided(int a, int b, int rest, int base) {
        String whole = num(a * b + rest, base);
        String x = num(a, base);
        StringBuilder all = new StringBuilder(whole + ";" + num(b, base) + ";" + x);
        int next = whole.length() - x.length() + 1;
        int left = Integer.parseInt(whole.substring(0, next), base);
        for (int i = 0; i < x.length(); i++) {
            int part = b * (x.charAt(i) - '0');
            left -= part;
            if (next < whole.length()) left = left * base + whole.charAt(next++) - '0';
            all.append(";").append(num(part, base)).append(";").append(num(left, base));
        }
        return all.toString();
    }

    static void drawing() {
        of("Promise 27");
        Supplier<SlateSum> busy = BoundaryTests::busy;
        for (int rub : new int[] {-1, -2, MIN, 101, 102, MAX}) refused("NONE: out of bounds", busy, s -> s.drawn(1, rub), NONE);
        Supplier<SlateSum> less = () -> { SlateSum s = slate("m;*;*;5"); s.image(); s.tell(0, 0, 8); return s; };
        // The draws of seed 2 begin with 1649717740 and 1969491882: X is 0, Y is 2.
        refused("NONE: in m Y above X", less, s -> s.drawn(2, 100), NONE);
        refused("NONE: in d Y not above REST", () -> slate("dr99;**;**;*;*;**"), s -> s.drawn(1, 0), NONE);
        long[] seeds = {0, 1, -1, 2, 7, 12345678901L, Long.MAX_VALUE, Long.MIN_VALUE, Long.MAX_VALUE - 1, Long.MIN_VALUE + 1, 1L << 33, 1L << 32, -1L << 33};
        for (long seed : seeds)
            for (char kind : "tdsm".toCharArray())
                for (int x = 1; x <= 3; x++)
                    for (int y = 1; y <= 2; y++)
                        for (int rub : new int[] {0, 1, 50, 99, 100}) oneDrawn(kind, 4 + (int) Math.floorMod(seed + x + y, 7L), x == 3 ? 0 : 2 * y, x, y, seed, rub);
        draws = BigInteger.ZERO;
        draw(10);
        draw(10);
        int third = draw(100);
        oneDrawn('s', 10, 0, 1, 1, 0, third);
        oneDrawn('s', 10, 0, 1, 1, 0, third + 1);
        SlateSum s = slate("s;1;a;*");
        s.image();
        s.tell(2, 0, 5);
        due("all told", s.drawn(0, 0), 4);
        due("all lost", s.drawn(0, 100), 0);
        due("all lost: count", s.count(5), 4);
        due("letters are gone", s.count(6), 0);
        due("another ROW's length", s.wide(2), 2);
        due("the KIND, BASE, REST, ROWS stay", s.count(0) * 1000 + s.count(1) * 100 + s.count(2) * 10 + s.count(3), 3003);
    }

    static void images() {
        of("Promises 28, 29 and 30");
        refused("NONE: no IMAGE, UNLIKE", () -> slate("s;1;a;*"), s -> s.unlike(), NONE);
        refused("NONE: no IMAGE, BACK", () -> { SlateSum s = slate("s;1;a;*"); s.tell(2, 0, 4); return s; }, s -> s.back(), NONE);
        SlateSum s = slate("s;*;*;*");
        due("none is told", s.image(), 0);
        due("UNLIKE: none", s.unlike(), 0);
        s.tell(0, 0, 0);
        due("UNLIKE: one", s.unlike(), 1);
        s.tell(1, 0, 0);
        s.tell(2, 0, 0);
        due("UNLIKE: all", s.unlike(), 3);
        s.undo();
        due("UNLIKE: two", s.unlike(), 2);
        due("instead of the one ahead", s.image(), 2);
        due("UNLIKE: none of the new one", s.unlike(), 0);
        due("ACTS stay", s.count(9), 2);
        s.rub(0, 0);
        due("BACK: how many places are told", s.back(), 2);
        due("BACK: no ACT can be undone", s.undo(), NONE);
        due("BACK:", rows(s), "0;0;*");
        due("BACK once more", s.back(), 2);
        due("another seed's ROWS", s.drawn(0, 0), 4);
        due("7 and 4, 11: of 0;0;* three are unlike and one is more", s.unlike(), 4);
        due("an IMAGE of longer ROWS", s.image(), 4);
        s.drawn(1, 0);
        due("a sum shorter by one:", rows(s), "4;3;7");
        due("places that just one has, too", s.unlike(), 4);
        due("BACK: all four", s.back(), 4);
        due("BACK:", rows(s), "7;4;11");
        type(s, "s;7;4;11");
        s.text(0);
        due("NONE: no IMAGE of this SLATE", s.unlike(), NONE);
        due("NONE: no IMAGE of this SLATE", s.back(), NONE);
        s.image();
        type(s, "s;7;4;1x");
        s.text(0);
        due("a refused text leaves the IMAGE", s.unlike(), 0);
        s = slate("d;98901;99;999;891;980;891;891;891;0");
        due("a full one of nine ROWS", s.image(), 26);
        s.drawn(5, 100);
        due("all lost", s.count(4), 0);
        due("BACK: all told", s.back(), 26);
        due("is right again", s.wrong(), NONE);
    }

    static void counts() {
        of("Promise 31");
        for (int what : new int[] {-1, -2, MIN, 10, 11, MAX}) {
            due("HIDDEN for others", slate("s;1;a;*").count(what), HIDDEN);
            due("HIDDEN for others, no SLATE", new SlateSum().count(what), HIDDEN);
        }
        SlateSum s = busy();
        int[] counts = {2, 10, 0, 3, 4, 0, 1, 2, 5, 3};
        for (int what = 0; what < 10; what++) due("count(" + what + ")", s.count(what), counts[what]);
        s = slate("db7r99;***;**;***;abc;def;gh1;******;******;******");
        counts = new int[] {1, 7, 99, 9, 1, 26, 8, 0, 0, 0};
        for (int what = 0; what < 10; what++) due("count(" + what + ") of d", s.count(what), counts[what]);
        String[] kinds = {"t;1;1;1", "d;1;1;1;1;1", "s;1;1;1", "m;1;1;1"};
        for (int i = 0; i < 4; i++) due("the KIND", slate(kinds[i]).count(0), i);
        s = new SlateSum();
        for (int i = 0; i <= 4; i++) {
            due("COSTS without a SLATE", s.count(7), Math.min(4, i));
            type(s, "y:1");
            s.text(1);
        }
        due("bytes of the TAPE without a SLATE", s.count(8), 3);
    }

    /** Whatever can be asked of a slate, but for the acts. */
    static String asked(SlateSum s) {
        StringBuilder b = new StringBuilder();
        b.append(s.lean(NONE)).append(' ').append(s.lean(0)).append(' ').append(s.slip(NONE)).append(' ').append(s.slip(0)).append(' ').append(s.mend());
        b.append(" heart ").append(s.heart()).append(" looks");
        for (int n = 0; n < 3; n++) b.append(' ').append(s.looks(n));
        b.append(" answers ").append(s.answers(NONE)).append(' ').append(s.answers(0)).append(' ').append(s.answers(s.answers(NONE) - 1)).append(' ').append(s.answers(s.answers(NONE) / 2));
        b.append(" known ").append(s.known()).append(" wrong ").append(s.wrong()).append(" letters");
        for (int letter = 0; letter < 8; letter++) b.append(' ').append(s.letter(letter));
        for (int what = 0; what < 2; what++) b.append(" best, cheap, mean ").append(s.best(what)).append(' ').append(s.cheap(what)).append(' ').append(s.mean(what));
        b.append(" thumbs");
        for (int row = 0; row < 9; row++) b.append(' ').append(s.thumb(row));
        for (int row = 0; s.wide(row) != NONE; row++) for (int place = 0; place < s.wide(row); place++) b.append(row + place == 0 ? " can " : " ").append(s.can(row, place));
        b.append(' ').append(s.answers(0)).append(' ').append(s.answers(1));
        return b.append(" slip ").append(s.slip(s.slip(NONE) - 1)).append(" lean ").append(s.lean(s.lean(NONE) - 1)).append(' ').append(s.wide(0)).toString();
    }

    /** What was asked ahead leaves no trace: an object asked all along answers as one that never was. */
    static void noTraceIsLeft() {
        of("What is asked leaves no trace");
        String[] texts = {"s;***;**;***", "t;***;**;****;***;*****", "d;***;**;**;**;**;**;0", "s;9;9;18", "dr98;98;99;0;0;98", "tb4;a;b;*", "m;**;*;**", "s;0;0;0",
            "s;1;1;123456", "d;98901;99;999;891;980;891;891;891;0", "s;12;9;22", "t;*;*;*8", "sb5;*a;b;c0"};
        for (String first : texts) {
            for (String then : texts) {
                SlateSum s = slate(first);
                asked(s);
                type(s, then);
                s.text(0);
                due("all of " + then + " behind " + first + ":", asked(s), asked(slate(then)));
            }
            SlateSum s = slate(first);
            s.image();
            s.drawn(5, 30);
            asked(s);
            s.back();
            due("all of " + first + " behind another one drawn:", asked(s), asked(slate(first)));
            s.rub(0, 0);
            asked(s);
            s.undo();
            s.tell(1, 0, 1);
            asked(s);
            s.undo();
            due("all of " + first + " behind ACTS undone:", asked(s), asked(slate(first)));
        }
    }

    /** Each question behind each other one, asked ahead of it and not. */
    static void inAnyOrder() {
        of("What is asked leaves no trace");
        List<ToLongFunction<SlateSum>> asks = List.of(s -> s.answers(NONE), s -> s.answers(0), s -> s.answers(1), s -> s.answers(2), s -> s.can(0, 0),
            s -> s.sure(2, 0), s -> s.letter(0), s -> s.known(), s -> s.wrong(), s -> s.best(0), s -> s.best(1), s -> s.cheap(0), s -> s.cheap(1), s -> s.mean(0),
            s -> s.mean(1), s -> s.looks(0), s -> s.looks(1), s -> s.looks(2), s -> s.slip(NONE), s -> s.slip(0), s -> s.thumb(0), s -> s.thumb(1), s -> s.thumb(2),
            s -> s.mend(), s -> s.lean(NONE), s -> s.lean(0), s -> s.lean(1), s -> s.heart(), s -> s.unlike(), s -> s.fault(1));
        for (String text : new String[] {"s;*;*;3", "t;*;a;1*", "s;12;9;21", "dr1;**;*;*;*;1", "m;5;8;*"}) {
            for (int i = 0; i < asks.size(); i++) {
                for (int j = 0; j < asks.size(); j++) {
                    SlateSum s = slate(text);
                    long alone = asks.get(i).applyAsLong(s);
                    asks.get(j).applyAsLong(s);
                    due("question " + i + " of " + text + " once more behind question " + j, asks.get(i).applyAsLong(s), alone);
                    s = slate(text);
                    asks.get(j).applyAsLong(s);
                    due("question " + i + " of " + text + " behind question " + j, asks.get(i).applyAsLong(s), alone);
                }
            }
        }
    }

    public static void main(String[] args) {
        usedFor512Calls();
        aSlateText();
        rowsOfASlate();
        blanks();
        aCostText();
        sixWithinOneAnother();
        worths();
        newObject();
        feeding();
        ending();
        faults();
        texts();
        places();
        costs();
        telling();
        rubbing();
        undoing();
        answers();
        canBe();
        lettersAndKnown();
        wrongOnes();
        lookingFirst();
        cheapest();
        looks();
        slips();
        thumbs();
        mends();
        leanest();
        byHeart();
        drawing();
        images();
        counts();
        noTraceIsLeft();
        inAnyOrder();
        System.out.println(wrong == 0 ? checks + " answers are as due" : wrong + " of " + checks + " answers are not as due");
        if (wrong != 0) System.exit(1);
    }
}
