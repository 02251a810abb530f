import java.util.NoSuchElementException;

/** For every promise of the document some runs of calls with the answers that are due, reckoned by hand. */
public final class PromiseTests {
    static final int NONE = -1;
    static final int HIDDEN = -1000000;
    static int wrong = 0;
    static int checks = 0;

    static void due(String what, long got, long want) {
        checks++;
        if (got != want) {
            wrong++;
            System.out.println(what + " answered " + got + ", due is " + want);
        }
    }

    static void due(String what, boolean got, boolean want) {
        due(what, got ? 1 : 0, want ? 1 : 0);
    }

    static int type(SlateSum s, String t) {
        int size = NONE;
        for (int i = 0; i == 0 || i < t.length(); i += 20) {
            int[] n = new int[5];
            for (int j = 0; j < 20; j++) n[j / 4] = n[j / 4] << 8 | (i + j < t.length() ? t.charAt(i + j) : 0);
            size = s.feed(n[0], n[1], n[2], n[3], n[4]);
        }
        return size;
    }

    static SlateSum slate(String t) {
        SlateSum s = new SlateSum();
        type(s, t);
        if (s.text(0) == NONE) due("slate " + t + " has a fault at " + s.fault(0), 0, 1);
        return s;
    }

    static void cost(SlateSum s, String t) {
        type(s, t);
        int number = s.text(1);
        due("the cost " + t + " is taken and holds", number >= 0 && s.cost(number), true);
    }

    static int look(SlateSum s, int row, int place) {
        try {
            return s.at(row, place);
        } catch (NoSuchElementException e) {
            return -77;
        }
    }

    static void fault(int sort, String t, int want) {
        SlateSum s = new SlateSum();
        type(s, t);
        due("fault(" + sort + ") of " + t, s.fault(sort), want);
        due("fault(" + sort + ") of " + t + " leaves the tape", s.count(8), t.length());
        int taken = s.text(sort);
        due("text(" + sort + ") of " + t, taken >= 0, want == NONE);
        due("tape after text(" + sort + ") of " + t, s.count(8), want == NONE ? 0 : t.length());
    }

    static void newObject() {
        SlateSum s = new SlateSum();
        due("NONE", SlateSum.NONE, -1);
        due("HIDDEN", SlateSum.HIDDEN, -1000000);
        int[] counts = {NONE, 0, 0, 0, 0, 0, 0, 0, 0, 0, HIDDEN};
        for (int i = 0; i < counts.length; i++) due("count(" + i + ") of a new one", s.count(i), counts[i]);
        due("at of a new one", look(s, 0, 0), -77);
        due("wide", s.wide(0), NONE);
        due("tell", s.tell(0, 0, 1), NONE);
        due("rub", s.rub(0, 0), NONE);
        due("undo", s.undo(), NONE);
        due("answers", s.answers(NONE), NONE);
        due("answers(0)", s.answers(0), NONE);
        due("can", s.can(0, 0), NONE);
        due("sure", s.sure(0, 0), NONE);
        due("letter", s.letter(0), NONE);
        due("known", s.known(), NONE);
        due("wrong", s.wrong(), HIDDEN);
        due("best", s.best(0), NONE);
        due("cheap", s.cheap(0), HIDDEN);
        due("mean", s.mean(0), NONE);
        due("looks", s.looks(0), NONE);
        due("slip", s.slip(NONE), NONE);
        due("thumb", s.thumb(0), NONE);
        due("mend", s.mend(), NONE);
        due("lean", s.lean(NONE), HIDDEN);
        due("heart", s.heart(), NONE);
        due("drawn", s.drawn(1, 0), NONE);
        due("image", s.image(), NONE);
        due("back", s.back(), NONE);
        due("unlike", s.unlike(), NONE);
        due("cost(NONE)", s.cost(NONE), true);
        due("cost(0)", s.cost(0), false);
    }

    static void feedAndEnd() {
        SlateSum s = new SlateSum();
        due("all bytes 0", s.feed(0, 0, 0, 0, 0), 0);
        due("the highest first", s.feed(0x743B0031, 0x003B3200, 0, 0x3B, 0x32000000), 7);
        due("t;1;2;2 is a slate", s.fault(0), NONE);
        due("end(-1)", s.end(-1), false);
        due("end(8)", s.end(8), false);
        due("still 7", s.count(8), 7);
        due("end(7)", s.end(7), true);
        due("still 7", s.count(8), 7);
        due("end(5)", s.end(5), true);
        due("t;1;2", s.fault(0), 5);
        due("end(0)", s.end(0), true);
        due("empty", s.count(8), 0);
        int ones = 0x31313131;
        for (int n = 1; n <= 8; n++) due("feed " + n, s.feed(ones, ones, ones, ones, ones), 20 * n);
        due("a 161st byte", s.feed(1, 0, 0, 0, 0), NONE);
        due("160 stay", s.count(8), 160);
        due("no byte goes always", s.feed(0, 0, 0, 0, 0), 160);
        due("end(141)", s.end(141), true);
        due("20 more of 161", s.feed(ones, ones, ones, ones, ones), NONE);
        due("141 stay", s.count(8), 141);
        due("19 more", s.feed(ones, ones, ones, ones, 0x31313100), 160);
        s.end(0);
        due("high bytes", s.feed(-1, 0x80000080, 0, 0, 0), 6);
        due("no slate begins so", s.fault(0), 0);
    }

    static void slateFaults() {
        SlateSum s = new SlateSum();
        due("fault(2)", s.fault(2), -2);
        due("fault(-1)", s.fault(-1), -2);
        due("text(2)", s.text(2), NONE);
        due("text(-1)", s.text(-1), NONE);
        String[] good = {"t;1;2;2", "tb4;123;33;***;***;******", "db7r0;1;1;1;1;1", "dr99;1;12;123;1;1;1;1;1;1", "d;1;1;12;1;1;1;1",
            "s;abc;gh;*", "mb10;1;1;123456", " t b 0 4 ; 1 ; 1 ; 1 ".replace("0 4", "04"), "  s;1 2 3;4 5;6   ", "db05r07;1;1;1;1;1", "sb9;8;8;88"};
        for (String t : good) fault(0, t, NONE);
        fault(0, "", 0);
        fault(0, "   ", 3);
        fault(0, "T", 0);
        fault(0, " ;", 1);
        fault(0, "t", 1);
        fault(0, "t ", 2);
        fault(0, "tt", 1);
        fault(0, "tb", 2);
        fault(0, "tb;", 2);
        fault(0, "tb3;1;1;1", 2);
        fault(0, "tb11;1", 3);
        fault(0, "tb12", 3);
        fault(0, "tb03;", 3);
        fault(0, "tb100;1", 4);
        fault(0, "tb990;1", 4);
        fault(0, "tb1 0;1", 2);
        fault(0, "tb1010", 4);
        fault(0, "tb119", 4);
        fault(0, "tb1", 2);
        fault(0, "tb5", 3);
        fault(0, "tb5 ", 4);
        fault(0, "tb5b5;", 3);
        fault(0, "tr1;", 1);
        fault(0, "sr1;", 1);
        fault(0, "mb5r1;", 3);
        fault(0, "dr;", 2);
        fault(0, "dr", 2);
        fault(0, "dr1b5;", 3);
        fault(0, "dr1r1;", 3);
        fault(0, "dr001;1", 4);
        fault(0, "dr1 0;1", 4);
        fault(0, "t;;", 2);
        fault(0, "t;", 2);
        fault(0, "t;1,", 3);
        fault(0, "t;1;", 4);
        fault(0, "t;1234;1;1", 5);
        fault(0, "t;1;123;1", 6);
        fault(0, "t;1;1;1234567", 12);
        fault(0, "t;1;1;123456", NONE);
        fault(0, "t;1;1;1;", 7);
        fault(0, "t;1;1;1;1", 7);
        fault(0, "t;1;11;1;1;1;1", 12);
        fault(0, "t;1;11;1;1", 10);
        fault(0, "t;1;1;1 x", 8);
        fault(0, "d;123456;12;1234", 15);
        fault(0, "d;1234567", 8);
        fault(0, "d;1;123", 6);
        fault(0, "d;1;1;1;1", 9);
        fault(0, "d;1;1;1;1;1;", 11);
        fault(0, "d;1;1;11;1;1;1;1;", 16);
        fault(0, "d;1;1;111;1;1;1;1;1;1;", 21);
        fault(0, "d;1;1;111;1;1;1;1;1", 19);
        fault(0, "s;1;1;1;", 7);
        fault(0, "s;1;11;1;", 8);
        fault(0, "m;1;11;1;", 8);
        fault(0, "m;1111", 5);
        fault(0, "s;1;111", 6);
        fault(0, "sb4;4;1;1", 4);
        fault(0, "sb4;3;1;14", 9);
        fault(0, "sb4;0;1;3*h4", 11);
        fault(0, "s;i;1;1", 2);
        fault(0, "s;A;1;1", 2);
        fault(0, "s;`;1;1", 2);
        fault(0, "s;/;1;1", 2);
        fault(0, "s;:;1;1", 2);
        fault(0, "s;1;\t1;1", 4);
        fault(0, "s;1;1;1" + (char) 233, 7);
    }

    static void costFaults() {
        String[] good = {"y:1", "y:0000", "y:9999", " y : r + p * n / l - k ", "y:[r]", "y:[[[[[[1]]]]]]", "y:r=1?2", "y:r<1|p>2&k=3?2",
            "y:!r=1?2", "y:!!!!!!r=1?2", "y:(r=1)?2", "y:((((((r=1))))))?2", "y:!(![!".substring(0, 2) + "!(![1]=2)?3", "y:1;y:2;y:3", "y:[r]=1?[1]",
            "y:r=[[[[[[1]]]]]]?[[[[[[1]]]]]]", "y:[1]*[2]*[3]*[4]*[5]*[6]*[7]*[8]", "y:!r=1&!r=1&!r=1&!r=1&!r=1&!r=1&!r=1?1"};
        for (String t : good) fault(1, t, NONE);
        fault(1, "", 0);
        fault(1, "  ", 2);
        fault(1, "x", 0);
        fault(1, "Y", 0);
        fault(1, "y", 1);
        fault(1, "y;", 1);
        fault(1, "y:", 2);
        fault(1, "y:x", 2);
        fault(1, "y:-1", 2);
        fault(1, "y:?", 2);
        fault(1, "y:1;", 4);
        fault(1, "y:1;1", 4);
        fault(1, "y:1;y", 5);
        fault(1, "y:1 ; y:2 ;", 11);
        fault(1, "y:12345", 6);
        fault(1, "y:00000", 6);
        fault(1, "y:1 2", 4);
        fault(1, "y:1r", 3);
        fault(1, "y:rr", 3);
        fault(1, "y:r+", 4);
        fault(1, "y:r+*", 4);
        fault(1, "y:r**2", 4);
        fault(1, "y:r?1", 3);
        fault(1, "y:r=", 4);
        fault(1, "y:r==", 4);
        fault(1, "y:r=1", 5);
        fault(1, "y:r=1;y:1", 5);
        fault(1, "y:r=1=1", 5);
        fault(1, "y:r=1?", 6);
        fault(1, "y:r=1?1?1", 7);
        fault(1, "y:r=1?1=1", 7);
        fault(1, "y:r=1?!", 6);
        fault(1, "y:r=1?(1", 6);
        fault(1, "y:r=1&", 6);
        fault(1, "y:r=1&p?1", 7);
        fault(1, "y:r=1|p+1?1", 9);
        fault(1, "y:r&p", 3);
        fault(1, "y:r|p", 3);
        fault(1, "y:(r)", 4);
        fault(1, "y:(r=1", 6);
        fault(1, "y:(r=1)", 7);
        fault(1, "y:(r=1)+1", 7);
        fault(1, "y:(r=1)=1", 7);
        fault(1, "y:(r=1))", 7);
        fault(1, "y:!r", 4);
        fault(1, "y:!r;", 4);
        fault(1, "y:!", 3);
        fault(1, "y:[", 3);
        fault(1, "y:[]", 3);
        fault(1, "y:[r", 4);
        fault(1, "y:[r=1]", 4);
        fault(1, "y:[r)", 4);
        fault(1, "y:[(r", 3);
        fault(1, "y:r]", 3);
        fault(1, "y:r)", 3);
        fault(1, "y:[[[[[[[1", 8);
        fault(1, "y:!!!!!!!r", 8);
        fault(1, "y:(((((((r", 8);
        fault(1, "y:![(", 4);
        fault(1, "y:!(!(!([1", 8);
        fault(1, "y:!(!(!(1=[1", 10);
        fault(1, "y:!(!(!1=[[1", 10);
        fault(1, "y:!(!(!1=[1]&2=[2]))?3", NONE);
        fault(1, "y:((((((1=1))))))&((((((1=[1", 26);
        fault(1, "y:((((((1=1))))))&((((((1=1))))))?[[[[[[1]]]]]]", NONE);
    }

    static void texts() {
        SlateSum s = slate("d;84;7;12;7;14;14;0");
        due("rows of d", s.count(3), 7);
        type(s, "y:1");
        due("first cost", s.text(1), 0);
        type(s, "y:x");
        due("a cost with a fault", s.text(1), NONE);
        due("its tape stays", s.count(8), 3);
        due("as a slate", s.text(0), NONE);
        due("the slate stays", s.count(0), 1);
        s.end(0);
        for (int i = 1; i < 4; i++) {
            type(s, "y:" + i);
            due("cost " + i, s.text(1), i);
        }
        type(s, "y:9");
        due("a fifth cost", s.text(1), NONE);
        due("four costs", s.count(7), 4);
        due("its tape stays", s.count(8), 3);
        due("cost(3)", s.cost(3), true);
        due("cost(4)", s.cost(4), false);
        due("cost(-2)", s.cost(-2), false);
        s.end(0);
        due("image", s.image(), 11);
        due("rub", s.rub(2, 1), 1);
        due("a cost leaves acts", s.count(9), 1);
        type(s, "s;**;1;**");
        due("text(0)", s.text(0), 3);
        due("acts are gone", s.count(9), 0);
        due("undo", s.undo(), NONE);
        due("the image is gone", s.unlike(), NONE);
        due("and is not back", s.back(), NONE);
        due("costs stay", s.count(7), 4);
        due("the cost that holds stays", s.cheap(1), 3);
        due("cost(NONE)", s.cost(NONE), true);
        due("none holds", s.cheap(1), 0);
        due("the tape is empty", s.count(8), 0);
        int[] kinds = {0, 1, 2, 3};
        String[] texts = {"tb9;1;1;1", "db8r2;6;4;1;4;2", "sb7;1;1;2", "mb6;1;1;0"};
        for (int i = 0; i < 4; i++) {
            SlateSum k = slate(texts[i]);
            due("kind", k.count(0), kinds[i]);
            due("base", k.count(1), 9 - i);
            due("rest", k.count(2), i == 1 ? 2 : 0);
            due("rows", k.count(3), i == 1 ? 5 : 3);
        }
    }

    static void places() {
        SlateSum s = slate("s b 10 ; 0 * 9 ; a h ; 1 2 3 4 5 6");
        int[] widths = {3, 2, 6};
        int[] signs = {0, 10, 9, 11, 18, 1, 2, 3, 4, 5, 6};
        int n = 0;
        for (int row = 0; row < 3; row++) {
            due("wide(" + row + ")", s.wide(row), widths[row]);
            for (int place = 0; place < widths[row]; place++) due("at", look(s, row, place), signs[n++]);
            due("behind the row", look(s, row, widths[row]), -77);
            due("ahead of the row", look(s, row, -1), -77);
        }
        due("wide(3)", s.wide(3), NONE);
        due("wide(-1)", s.wide(-1), NONE);
        due("at(3, 0)", look(s, 3, 0), -77);
        due("at(-1, 0)", look(s, -1, 0), -77);
        due("at(0, 6)", look(s, 0, 6), -77);
        due("at of the far", look(s, Integer.MAX_VALUE, Integer.MIN_VALUE), -77);
        due("told", s.count(4), 8);
        due("lost", s.count(5), 1);
        due("letters", s.count(6), 2);
        due("count(-1)", s.count(-1), HIDDEN);
        due("count(10)", s.count(10), HIDDEN);
    }

    static void acts() {
        SlateSum s = slate("sb7;*;a;1");
        due("no such place", s.tell(0, 1, 1), NONE);
        due("no such row", s.tell(3, 0, 1), NONE);
        due("no such figure", s.tell(0, 0, 7), NONE);
        due("no such figure", s.tell(0, 0, -1), NONE);
        due("one is told there", s.tell(2, 0, 1), NONE);
        due("no act", s.count(9), 0);
        due("it is lost", s.rub(0, 0), NONE);
        due("no such place", s.rub(0, 1), NONE);
        due("no such row", s.rub(-1, 0), NONE);
        due("a lost one", s.tell(0, 0, 6), 1);
        due("is told", look(s, 0, 0), 6);
        due("a letter", s.tell(1, 0, 0), 2);
        due("is told", look(s, 1, 0), 0);
        due("now one is told", s.tell(1, 0, 0), NONE);
        due("undo", s.undo(), 1);
        due("the letter is back", look(s, 1, 0), 11);
        due("rub a letter", s.rub(1, 0), 2);
        due("lost", look(s, 1, 0), 10);
        due("rub a told one", s.rub(2, 0), 3);
        due("undo", s.undo(), 2);
        due("told again", look(s, 2, 0), 1);
        due("undo", s.undo(), 1);
        due("the letter is back", look(s, 1, 0), 11);
        due("undo", s.undo(), 0);
        due("lost again", look(s, 0, 0), 10);
        due("undo none", s.undo(), NONE);
        for (int n = 1; n <= 43; n++) {
            int size = n % 2 == 1 ? s.tell(0, 0, n % 7) : s.rub(0, 0);
            due("act " + n, size, Math.min(n, 40));
        }
        for (int n = 39; n >= 0; n--) due("undo to " + n, s.undo(), n);
        due("undo none", s.undo(), NONE);
        due("what the third act told", look(s, 0, 0), 3);
    }

    static void answers() {
        SlateSum s = slate("t;12;*4;*8;12;168");
        due("one answer", s.answers(NONE), 1);
        due("12 times 14", s.answers(0), 1214);
        due("no second one", s.answers(1), NONE);
        due("answers(-2)", s.answers(-2), NONE);
        s = slate("s;*;*;3");
        int[] threes = {3, 102, 201, 300};
        due("four sums of 3", s.answers(NONE), 4);
        for (int i = 0; i < 4; i++) due("sum of 3", s.answers(i), threes[i]);
        due("answers(4)", s.answers(4), NONE);
        due("no number of two begins with 0", slate("s;**;*;10").answers(0), 1000);
        due("only one", slate("s;**;*;10").answers(NONE), 1);
        due("lengths as told", slate("s;*;*;**").answers(0), 109);
        due("too long a row", slate("s;9;9;*8*").answers(NONE), 0);
        due("m: Y is no more than X", slate("m;3;*;*").answers(NONE), 4);
        due("base 4", slate("sb4;3;3;**").answers(0), 303);
        due("base 4 told in 10", slate("tb4;33;33;***;***;****").answers(0), 1515);
        due("d: REST below Y", slate("dr3;*;*;1;*;3").answers(0), 104);
        due("d: how many", slate("dr3;*;*;1;*;3").answers(NONE), 3);
        due("d: Y is not 0", slate("d;0;*;0;0;0").answers(NONE), 9);
        due("d: 84 by 7", slate("d;8*;7;**;*;1*;1*;0").answers(0), 1207);
        due("d: 100 by 3", slate("dr1;***;*;33;9;10;9;1").answers(0), 3303);
        due("d: a figure 0", slate("d;***;4;*0*;4;*;*;8;8;0").answers(0), 10204);
        due("d: base 6, rest in base 6", slate("db6r7;**;**;1;**;11").answers(0), 108);
        due("t: the last of Y first", slate("t;7;12;14;7;84").answers(0), 712);
        due("t: not the first of Y first", slate("t;7;12;7;14;84").answers(NONE), 0);
        due("t: 0 has one figure", slate("t;7;*0;0;*4;*40").answers(0), 720);
        due("alike letters", slate("s;a;a;b").answers(NONE), 4);
        due("unlike letters", slate("s;a;b;3").answers(NONE), 4);
        due("unlike letters are unlike", slate("s;a;b;4").answers(NONE), 4);
        due("a letter may be as a told one", slate("s;a;1;2").answers(0), 101);
        due("a letter may be as a lost one", slate("s;a;*;2").answers(NONE), 3);
        due("a far number", slate("t;***;**;8991;8991;98901").answers(0), 99999);
    }

    static void canAndSure() {
        SlateSum s = slate("s;*a;b;20");
        due("answers", s.answers(NONE), 8);
        due("first figure", s.can(0, 0), 1 << 1);
        due("second", s.can(0, 1), 0b1111011110);
        due("told", s.can(2, 0), 1 << 2);
        due("told 0", s.can(2, 1), 1);
        due("sure", s.sure(0, 0), 1);
        due("not sure", s.sure(0, 1), NONE);
        due("sure of a told one", s.sure(2, 1), 0);
        due("no such place", s.can(2, 2), NONE);
        due("no such row", s.can(3, 0), NONE);
        due("no such place", s.sure(0, -1), NONE);
        due("letter a", s.letter(0), 0b1111011110);
        due("letter b", s.letter(1), 0b1111011110);
        due("letter c", s.letter(2), NONE);
        due("letter(-1)", s.letter(-1), NONE);
        due("letter(8)", s.letter(8), NONE);
        due("known", s.known(), 1);
        s.tell(0, 1, 5);
        due("no answer by unlike letters is left aside", s.answers(NONE), 1);
        due("a is off the slate", s.letter(0), NONE);
        due("known", s.known(), 2);
        s.undo();
        s.tell(0, 0, 9);
        due("no answer", s.answers(NONE), 0);
        due("can", s.can(0, 0), 0);
        due("sure", s.sure(0, 0), NONE);
        due("letter", s.letter(0), 0);
        due("known", s.known(), NONE);
        due("known of a full one", slate("s;1;1;2").known(), 0);
        due("letter h", slate("m;5;h;1").letter(7), 1 << 4);
        due("known letters", slate("m;5;h;1").known(), 1);
    }

    static void wrong() {
        due("right", slate("t;12;14;48;12;168").wrong(), NONE);
        due("product", slate("t;12;14;48;12;178").wrong(), 41);
        due("first part", slate("t;12;14;49;12;178").wrong(), 21);
        due("part too long", slate("t;12;14;048;12;168").wrong(), 20);
        due("part too short", slate("t;12;14;8;12;168").wrong(), 20);
        due("second part", slate("t;12;14;48;22;168").wrong(), 30);
        due("lost", slate("t;12;14;4*;12;168").wrong(), HIDDEN);
        due("letter", slate("t;12;14;4a;12;168").wrong(), HIDDEN);
        due("X begins with 0", slate("s;01;1;2").wrong(), 0);
        due("X begins with 0 and is 0", slate("s;00;1;1").wrong(), 0);
        due("Y begins with 0", slate("s;1;01;2").wrong(), 0);
        due("Y is 00", slate("s;12;00;12").wrong(), 0);
        due("Y begins with 0, X stands", slate("s;999;09;1008").wrong(), 0);
        due("Y ends with 0", slate("s;1;10;11").wrong(), NONE);
        due("Y is 0 alone", slate("s;1;0;1").wrong(), NONE);
        due("X is 0 alone", slate("s;0;1;1").wrong(), NONE);
        due("X is 0 alone, sum", slate("s;0;1;2").wrong(), 20);
        due("t, X begins with 0", slate("t;012;4;48").wrong(), 0);
        due("t, Y begins with 0", slate("t;12;04;48;0;48").wrong(), 0);
        due("t, X and Y are 0", slate("t;0;0;0").wrong(), NONE);
        due("m, X begins with 0", slate("m;09;5;4").wrong(), 0);
        due("m, Y begins with 0", slate("m;12;05;7").wrong(), 0);
        due("m, a left one begins with 0", slate("m;12;05;07").wrong(), 0);
        due("m, what is left begins with 0", slate("m;12;5;07").wrong(), 20);
        due("d, X begins with 0", slate("d;8;4;02;0;8;8;0").wrong(), 20);
        due("d, Y begins with 0", slate("d;8;04;2;8;0").wrong(), 20);
        due("d, Y begins with 0, ROW 0 as well", slate("d;09;04;2;8;0").wrong(), 20);
        due("d, both begin with 0", slate("dr1;9;04;02;0;8;8;1").wrong(), 20);
        due("d, X is 0 alone", slate("dr1;1;4;0;0;1").wrong(), NONE);
        due("d, number divided begins with 0", slate("d;08;4;2;8;0").wrong(), 0);
        due("base 4, Y begins with 0", slate("sb4;3;01;10").wrong(), 0);
        due("Y above X", slate("m;5;7;2").wrong(), 0);
        due("Y as X", slate("m;5;5;0").wrong(), NONE);
        due("Y is 0", slate("d;5;0;5;0;5").wrong(), 20);
        due("Y is not above REST", slate("dr3;9;3;2;6;3").wrong(), 20);
        due("right d", slate("dr3;11;4;2;8;3").wrong(), NONE);
        due("number divided", slate("dr3;12;4;2;8;3").wrong(), 1);
        due("its length", slate("dr3;9;4;2;8;3").wrong(), 0);
        due("REST", slate("dr3;11;4;2;8;2").wrong(), 40);
        due("long d", slate("d;84;7;12;7;14;14;0").wrong(), NONE);
        due("left with the next figure", slate("d;84;7;12;7;1;14;0").wrong(), 40);
        due("left with the next figure", slate("d;84;7;12;7;15;14;0").wrong(), 41);
        due("long d, a 0 left", slate("d;408;4;102;4;0;0;8;8;0").wrong(), NONE);
        due("sum in base 4", slate("sb4;3;2;11").wrong(), NONE);
        due("sum in base 4", slate("sb4;3;2;12").wrong(), 21);
    }

    static void lookFirst() {
        SlateSum s = slate("s;a;b;c");
        due("best place", s.best(0), 0);
        due("most left", s.best(1), 7);
        due("best(2)", s.best(2), NONE);
        due("best(-1)", s.best(-1), NONE);
        due("mean above", s.mean(0), 39);
        due("mean below", s.mean(1), 8);
        due("mean(2)", s.mean(2), NONE);
        due("mean(-1)", s.mean(-1), NONE);
        s = slate("s;1;2;3");
        due("nothing is lost", s.best(0), NONE);
        due("nothing is lost", s.mean(0), NONE);
        s = slate("s;9;*;*");
        due("one answer", s.best(0), 10);
        due("one is left", s.best(1), 1);
        s = slate("s;9;*;9*");
        due("no answer", s.best(0), NONE);
        due("no answer", s.mean(1), NONE);
        s = slate("s;*;*;1*");
        due("of several the first", s.best(0), 0);
        due("9 by 1 .. 9", s.best(1), 9);
        due("285 by 45", s.mean(0), 19);
        due("made plain", s.mean(1), 3);
        s = slate("s;1*;*;**");
        due("20 counts more", s.best(0), 1);
        due("every last figure leaves 10", s.best(1), 10);
        due("mean", s.mean(0), 10);
        due("mean", s.mean(1), 1);
    }

    static void cheap() {
        SlateSum s = slate("s;1*;*;**");
        type(s, "y:7");
        due("a cost that does not hold", s.text(1), 0);
        due("no cost", s.cheap(0), 1);
        due("worth 0", s.cheap(1), 0);
        s = slate("s;1*;*;**");
        due("cheap(2)", s.cheap(2), HIDDEN);
        due("cheap(-1)", s.cheap(-1), HIDDEN);
        cost(s, "y:0-r*10-p");
        due("last place", s.cheap(0), 21);
        due("worth", s.cheap(1), -21);
        cost(s, "y:k=2?5;y:k*100+n*10+l");
        due("fewest figures", s.cheap(0), 20);
        due("worth", s.cheap(1), 5);
        cost(s, "y:r=1?n*100+l*10+k;y:9999");
        due("letters", s.cheap(0), 10);
        due("letters' worth", s.cheap(1), 320);
        cost(s, "y:r>9?1");
        due("no clause holds", s.cheap(1), 0);
        due("of several the first", s.cheap(0), 1);
        due("none to be looked at", slate("s;9;*;*").cheap(0), HIDDEN);
        due("none to be looked at", slate("s;9;*;*").cheap(1), HIDDEN);
        due("no answer", slate("s;9;*;9*").cheap(0), HIDDEN);
    }

    static void worth(String cost, int want) {
        SlateSum s = slate("m;1*;*;**");
        cost(s, cost);
        due("worth of " + cost, s.cheap(1), want);
    }

    static void worths() {
        worth("y:7", 7);
        worth("y:2+3*4", 14);
        worth("y:[2+3]*4", 20);
        worth("y:9-3-2", 4);
        worth("y:24/4/3", 2);
        worth("y:7/2*2", 6);
        worth("y:[0-7]/2", -3);
        worth("y:7/[0-2]", -3);
        worth("y:7/0", 0);
        worth("y:7/[3-3]+1", 1);
        worth("y:9999*9999", 1000000);
        worth("y:9999*9999-1", 999999);
        worth("y:0-9999*9999", -1000000);
        worth("y:[0-9999]*9999+1", -999999);
        worth("y:9999*9999*9999/9999", 100);
        worth("y:9999*100+9999*9", 1000000);
        worth("y:[0-9999*100]-9999*9", -1000000);
        worth("y:1=1?2;y:3", 2);
        worth("y:1=2?2;y:3", 3);
        worth("y:1<2?2;y:3", 2);
        worth("y:2<2?2;y:3", 3);
        worth("y:2>1?2;y:3", 2);
        worth("y:2>2?2;y:3", 3);
        worth("y:!1=1?2;y:3", 3);
        worth("y:!!1=1?2;y:3", 2);
        worth("y:1=2|1=1?2;y:3", 2);
        worth("y:1=1|1=2?2;y:3", 2);
        worth("y:1=2|1=3?2;y:3", 3);
        worth("y:1=1&1=2?2;y:3", 3);
        worth("y:1=2&1=1?2;y:3", 3);
        worth("y:1=1&2=2?2;y:3", 2);
        worth("y:1=1|1=1&1=2?2;y:3", 2);
        worth("y:(1=1|1=1)&1=2?2;y:3", 3);
        worth("y:!1=2&1=2?2;y:3", 3);
        worth("y:!(1=2&1=2)?2;y:3", 2);
        worth("y:1+1=2?4", 4);
        worth("y:1+1=4-2?4", 4);
        worth("y:[1+1]*2=4?4", 4);
        worth("y:1;y:2", 1);
        worth("y:1=2?2", 0);
        worth("y:1=2?2;y:1=1?5;y:7", 5);
    }

    static void looks() {
        SlateSum s = slate("s;a;b;c");
        due("32 answers", s.looks(0), 0);
        due("looks(1)", s.looks(1), 0);
        due("looks(2)", s.looks(2), 1);
        due("looks(3)", s.looks(3), NONE);
        due("looks(-1)", s.looks(-1), NONE);
        s = slate("s;*;*;3");
        due("four answers", s.looks(0), 0);
        due("one look", s.looks(1), 1);
        due("two looks", s.looks(2), 1);
        s = slate("s;1;2;3");
        for (int n = 0; n < 3; n++) due("one answer", s.looks(n), 1);
        s = slate("s;1;2;4");
        for (int n = 0; n < 3; n++) due("no answer", s.looks(n), NONE);
        due("900 answers", slate("s;**;*;**").looks(2), NONE);
        s = slate("t;4**;*;***");
        due("4** by 1 and by 2", s.answers(NONE), 200);
        due("200 are not too many", s.looks(0), 0);
        s = slate("sb6;5*c;*;***");
        due("201 answers", s.answers(NONE), 201);
        for (int n = 0; n < 3; n++) due("are too many", s.looks(n), NONE);
        // 25 by 4, 34 by 3, 35 by 3, 53 by 2, 54 by 2, 54 by 3
        s = slate("tb6;bc;*;a5*");
        due("six answers", s.answers(NONE), 6);
        due("not by one look", s.looks(1), 0);
        due("nor by two", s.looks(2), 0);
        // 2 by 9, 3 by 6, 4 by 7, 6 by 3 and 8, 7 by 4, 8 by 6, 9 by 2
        s = slate("t;*;*;*8");
        due("6 by 3 or by 8", s.looks(1), 0);
        due("then Y", s.looks(2), 1);
        s = slate("t;a;*;9");
        due("1, 9 (and 3, 3)", s.answers(NONE), 3);
        due("the place of X or Y tells", s.looks(1), 1);
        s = slate("t;*;1;*");
        due("ten answers", s.looks(1), 1);
        s = slate("t;7;*;*");
        due("two answers", s.answers(NONE), 2);
        due("by one look", s.looks(1), 1);
        due("not by none", s.looks(0), 0);
        s = slate("mb4;***;*;1**");
        due("answers of m", s.answers(NONE), 64);
        due("64 by two looks", s.looks(2), 0);
    }

    static void slips() {
        SlateSum s = slate("t;12;24;*8;12;168");
        due("one slip", s.slip(NONE), 1);
        due("the slip", s.slip(0), 1001);
        due("no second one", s.slip(1), NONE);
        due("slip(-2)", s.slip(-2), NONE);
        due("mend", s.mend(), 1);
        s = slate("s;1;2;4");
        due("three slips", s.slip(NONE), 3);
        due("2 and 2", s.slip(0), 2);
        due("1 and 3", s.slip(1), 1003);
        due("3", s.slip(2), 2003);
        due("slip(3)", s.slip(3), NONE);
        due("right ones have none", slate("s;1;2;3").slip(NONE), 0);
        due("mend of a right one", slate("s;1;2;3").mend(), 0);
        s = slate("s;*;2;4");
        due("with a lost one", s.slip(NONE), 4 + 7);
        due("first: Y", s.slip(0), 1000);
        due("then the sum", s.slip(4), 2002);
        due("digits below BASE", slate("sb4;1;1;3").slip(NONE), 3);
        due("mend by two", slate("t;12;14;99;12;168").mend(), 2);
        due("mend by more", slate("t;12;14;99;92;168").mend(), NONE);
        due("mend never", slate("s;1;1;111").mend(), NONE);
        due("letters are not lost", slate("s;a;a;3").mend(), 1);
        due("letters bind", slate("s;ab;ab;77").mend(), 1);
        due("letters bind", slate("s;aa;aa;75").mend(), 2);
        due("a slip with letters", slate("s;a;a;3").slip(NONE), 5);
    }

    static void thumbs() {
        SlateSum s = slate("s;a;b;c");
        due("c lost", s.thumb(2), 50);
        due("a lost", s.thumb(0), 45);
        due("heart", s.heart(), 55);
        due("thumb(3)", s.thumb(3), NONE);
        due("thumb(-1)", s.thumb(-1), NONE);
        s.tell(0, 0, 9);
        due("thumb after an act", s.thumb(1), 1);
        due("thumb over it", s.thumb(0), 45);
        due("heart stays", s.heart(), 55);
        due("full", slate("s;12;9;21").thumb(0), 1);
        due("wrong one under the thumb", slate("s;13;9;21").thumb(0), 1);
        due("wrong one elsewhere", slate("s;13;9;21").thumb(1), 1);
        due("no length", slate("s;1;1;111").heart(), 0);
        due("heart of d", slate("d;0;1;0;0;0").heart(), 32);
        type(s, "s;1;a;*");
        s.text(0);
        due("heart of one more slate", s.heart(), 55);
        type(s, "sb4;1;a;*");
        s.text(0);
        due("heart of another base", s.heart(), 10);
        s.image();
        due("3 and 3", s.drawn(3, 0), 4);
        due("heart of other lengths", s.heart(), 6);
        due("thumb of other lengths", s.thumb(0), 1);
        s.back();
        due("heart of those again", s.heart(), 10);
        due("heart of m in base 4", slate("mb4;1;1;0").heart(), 10);
    }

    static void lean() {
        SlateSum s = slate("s;12;9;21");
        due("three left", s.lean(NONE), 3);
        due("9", s.lean(0), 10);
        due("2", s.lean(1), 20);
        due("1", s.lean(2), 21);
        due("lean(3)", s.lean(3), NONE);
        due("lean(-2)", s.lean(-2), NONE);
        s.rub(0, 0);
        due("a lost one", s.lean(NONE), HIDDEN);
        s.tell(0, 0, 2);
        due("a wrong one", s.lean(0), HIDDEN);
        s.undo();
        s.undo();
        due("right again", s.lean(NONE), 3);
        due("0 and 0", slate("s;0;0;0").lean(NONE), 1);
        due("their sum alone", slate("s;0;0;0").lean(0), 20);
        due("any X by 0 is 0: X and 0 stay", slate("t;5;0;0").lean(NONE), 2);
        due("X", slate("t;5;0;0").lean(0), 0);
        due("0", slate("t;5;0;0").lean(1), 20);
        due("18 by lengths and the last", slate("s;9;9;18").lean(0), 21);
        due("one alone", slate("s;9;9;18").lean(NONE), 1);
        due("letters", slate("s;1;1;a").lean(NONE), HIDDEN);
    }

    static void drawn() {
        SlateSum s = slate("s;*;a;1");
        due("rub above 100", s.drawn(1, 101), NONE);
        due("rub below 0", s.drawn(1, -1), NONE);
        s.image();
        s.tell(0, 0, 1);
        due("a refused one leaves acts", s.drawn(1, 101), NONE);
        due("acts", s.count(9), 1);
        // The draws of seed 0: 167951807, 218396424, then modulo 100: 37, 36, 25, 91.
        due("nothing rubbed", s.drawn(0, 0), 4);
        due("first draw", look(s, 0, 0), 7);
        due("second draw", look(s, 1, 0), 4);
        due("the sum", look(s, 2, 0), 1);
        due("the sum", look(s, 2, 1), 1);
        due("no acts", s.undo(), NONE);
        due("the image stays, its 1 is alike", s.unlike(), 3);
        due("those below 37 are rubbed", s.drawn(0, 37), 2);
        due("37 is not", look(s, 0, 0), 7);
        due("36 is", look(s, 1, 0), 10);
        due("25 is", look(s, 2, 0), 10);
        due("91 is not", look(s, 2, 1), 1);
        due("all rubbed", s.drawn(0, 100), 0);
        due("lost", s.count(5), 4);
        s = slate("s;9;9;8");
        due("as many figures as they have", s.drawn(0, 0), 4);
        due("wide", s.wide(2), 2);
        s = slate("s;9;9;123456");
        s.image();
        s.drawn(0, 0);
        due("places that just one has, too, the 1 is alike", s.unlike(), 2 + 5);
        due("back", s.back(), 8);
        due("wide again", s.wide(2), 6);
        // The draws of seed 2: 1649717740, 1969491882.
        s = slate("m;*;*;*");
        due("Y above X", s.drawn(2, 0), NONE);
        due("stays as it is", s.count(5), 3);
        due("Y below X", s.drawn(0, 0), 3);
        due("less", look(s, 2, 0), 3);
        s = slate("dr20;**;*;*;**;*");
        due("Y is not above REST", s.drawn(7, 0), NONE);
        s = slate("s;***;**;***");
        due("three and two", s.drawn(0, 0) >= 8, true);
        due("the first of more than one", look(s, 0, 0), 9);
        due("then a draw of BASE", look(s, 0, 1), 4);
        due("then Y's first", look(s, 1, 0), 861605236 % 9 + 1);
        due("right", s.wrong(), NONE);
        s = slate("d;**;*;*;**;0");
        due("seed -1: 8 times 3", s.drawn(-1, 0), 7);
        due("24", s.wrong(), NONE);
        due("8", look(s, 2, 0), 8);
        due("3", look(s, 1, 0), 3);
    }

    static void images() {
        SlateSum s = slate("s;1;a;*");
        due("unlike none", s.unlike(), NONE);
        due("back none", s.back(), NONE);
        due("image", s.image(), 1);
        due("unlike", s.unlike(), 0);
        due("tell", s.tell(2, 0, 5), 1);
        due("rub", s.rub(1, 0), 2);
        due("unlike", s.unlike(), 2);
        due("another image", s.image(), 2);
        due("unlike", s.unlike(), 0);
        due("acts stay", s.undo(), 1);
        due("unlike", s.unlike(), 1);
        due("back", s.back(), 2);
        due("no acts", s.undo(), NONE);
        due("lost", look(s, 1, 0), 10);
        due("told", look(s, 2, 0), 5);
        due("the image is still there", s.unlike(), 0);
        due("answers are those of the image", s.answers(NONE), 1);
        type(s, "s;1;a;*");
        due("the same slate anew", s.text(0), 3);
        due("has no image", s.unlike(), NONE);
    }

    public static void main(String[] args) {
        newObject();
        feedAndEnd();
        slateFaults();
        costFaults();
        texts();
        places();
        acts();
        answers();
        canAndSure();
        wrong();
        lookFirst();
        cheap();
        worths();
        looks();
        slips();
        thumbs();
        lean();
        drawn();
        images();
        System.out.println(wrong == 0 ? checks + " answers are as due" : wrong + " of " + checks + " answers are not as due");
        if (wrong != 0) System.exit(1);
    }
}
