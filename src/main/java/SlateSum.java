import java.util.NoSuchElementException;

/** A sum in writing on a slate with figures told, lost, or letters in place of them. */
public final class SlateSum {
    public static final int NONE = -1;
    public static final int HIDDEN = -1000000;

    private static final int TIMES = 0;
    private static final int DIVIDED = 1;
    private static final int TOGETHER = 2;
    private static final int LESS = 3;

    private static final int MOST_ROWS = 9;
    private static final int MOST_FIGURES = 6;
    private static final int PLACES = 54;
    private static final int MOST_BASE = 10;
    private static final int LETTERS = 8;
    private static final int MOST_Y = 100;
    private static final int MOST_X = 1000;
    // No slate has more pairs of X and Y than this, so it ends every walk through them.
    private static final int PAIRS = 1000000;

    private static final int LOST = 10;
    private static final int FIRST_LETTER = 11;
    private static final int LAST_LETTER = 18;

    private static final int MOST_BYTES = 160;
    private static final int MOST_COSTS = 4;
    private static final int MOST_ACTS = 40;
    private static final int MOST_DEPTH = 6;
    private static final int COST_LETTERS = 5;
    private static final int MOST_WORTH = 1000000;
    private static final int MOST_TO_LOOK = 200;
    private static final int MOST_MENDED = 2;

    private static final int TEXT_ENDS = -1;
    private static final int TEXT_FAILED = -2;
    private static final int NO_SUCH_SORT = -2;

    private final Tape tape;
    private final Signs signs;
    private final SheetReader sheetReader;
    private final CostReader costReader;
    private final Tape[] costTapes;
    private final Sheet sheet;
    private final Sheet kept;
    private final Acts acts;
    private final Search search;
    private final Results results;
    private final Slips slips;
    private final Lean leanest;
    private final Looker looker;
    private int costs;
    private int holding;
    private boolean imageKept;
    private long draw;

    public SlateSum() {
        tape = new Tape();
        signs = new Signs();
        sheetReader = new SheetReader(signs);
        costReader = new CostReader(signs);
        costTapes = new Tape[MOST_COSTS];
        for (int i = 0; i < costTapes.length; i++) {
            costTapes[i] = new Tape();
        }
        sheet = new Sheet();
        kept = new Sheet();
        acts = new Acts();
        search = new Search(sheet);
        results = new Results(sheet, search);
        slips = new Slips(sheet, search);
        leanest = new Lean(sheet, search);
        looker = new Looker(sheet, search);
        holding = NONE;
    }

    public int feed(int a, int b, int c, int d, int e) {
        int more = bytesIn(a) + bytesIn(b) + bytesIn(c) + bytesIn(d) + bytesIn(e);
        if (tape.size() + more > MOST_BYTES) {
            return NONE;
        }
        appendBytes(a);
        appendBytes(b);
        appendBytes(c);
        appendBytes(d);
        appendBytes(e);
        return tape.size();
    }

    public boolean end(int n) {
        if (n < 0 || n > tape.size()) {
            return false;
        }
        tape.cutTo(n);
        return true;
    }

    public int fault(int sort) {
        if (sort == 0) {
            return sheetReader.faultOf(tape);
        }
        return sort == 1 ? costReader.faultOf(tape) : NO_SUCH_SORT;
    }

    public int text(int sort) {
        if (sort == 0) {
            return takeSlate();
        }
        return sort == 1 ? takeCost() : NONE;
    }

    public int at(int row, int place) throws NoSuchElementException {
        if (!sheet.has(row, place)) {
            throw new NoSuchElementException();
        }
        return sheet.signAt(placeOf(row, place));
    }

    public int wide(int row) {
        return sheet.hasRow(row) ? sheet.lengthOf(row) : NONE;
    }

    public boolean cost(int cost) {
        if (cost < NONE || cost >= costs) {
            return false;
        }
        holding = cost;
        return true;
    }

    public int tell(int row, int place, int figure) {
        if (!sheet.has(row, place) || figure < 0 || figure >= sheet.base) {
            return NONE;
        }
        return sheet.signAt(placeOf(row, place)) < LOST ? NONE : act(placeOf(row, place), figure);
    }

    public int rub(int row, int place) {
        if (!sheet.has(row, place) || sheet.signAt(placeOf(row, place)) == LOST) {
            return NONE;
        }
        return act(placeOf(row, place), LOST);
    }

    public int undo() {
        if (acts.size() == 0) {
            return NONE;
        }
        sheet.write(acts.latestPlace(), acts.latestSign());
        acts.dropLatest();
        return acts.size();
    }

    public int answers(int i) {
        if (!sheet.isThere()) {
            return NONE;
        }
        return i == NONE ? results.total() : results.answer(i);
    }

    public int can(int row, int place) {
        return sheet.has(row, place) ? results.figuresAt(placeOf(row, place)) : NONE;
    }

    public int sure(int row, int place) {
        return sheet.has(row, place) ? onlyFigure(results.figuresAt(placeOf(row, place))) : NONE;
    }

    public int letter(int letter) {
        if (letter < 0 || letter >= LETTERS) {
            return NONE;
        }
        int place = sheet.firstPlaceOf(FIRST_LETTER + letter);
        return place < 0 ? NONE : results.figuresAt(place);
    }

    public int known() {
        if (!sheet.isThere() || results.total() == 0) {
            return NONE;
        }
        int known = 0;
        for (int q = 0; q < PLACES; q++) {
            if (sheet.isUnknown(q) && onlyFigure(results.figuresAt(q)) >= 0) {
                known++;
            }
        }
        return known;
    }

    public int wrong() {
        return sheet.isFull() ? search.firstWrong() : HIDDEN;
    }

    public int best(int what) {
        int place = results.bestPlace();
        if (place < 0 || what < 0 || what > 1) {
            return NONE;
        }
        return what == 0 ? codeOf(place) : results.mostLeftAt(place);
    }

    public int cheap(int what) {
        if (!sheet.isThere() || what < 0 || what > 1) {
            return HIDDEN;
        }
        int cheapest = HIDDEN;
        int worth = 0;
        for (int q = 0; q < PLACES; q++) {
            int figures = sheet.holds(q) ? Integer.bitCount(results.figuresAt(q)) : 0;
            if (figures < 2) {
                continue;
            }
            int here = worthAt(q, figures);
            if (cheapest == HIDDEN || here < worth) {
                cheapest = codeOf(q);
                worth = here;
            }
        }
        if (cheapest == HIDDEN) {
            return HIDDEN;
        }
        return what == 0 ? cheapest : worth;
    }

    public int mean(int part) {
        int place = results.bestPlace();
        if (place < 0 || part < 0 || part > 1) {
            return NONE;
        }
        long above = results.squaresAt(place);
        long below = results.total();
        long divisor = commonDivisor(above, below);
        if (divisor <= 0) {
            return NONE;
        }
        return (int) ((part == 0 ? above : below) / divisor);
    }

    public int looks(int n) {
        if (!sheet.isThere() || n < 0 || n > 2) {
            return NONE;
        }
        int total = results.total();
        if (total == 0 || total > MOST_TO_LOOK) {
            return NONE;
        }
        return looker.settles(n) ? 1 : 0;
    }

    public int slip(int i) {
        if (!sheet.isThere()) {
            return NONE;
        }
        return i == NONE ? slips.total() : slips.slipAt(i);
    }

    public int thumb(int row) {
        return sheet.hasRow(row) ? results.totalUnder(row) : NONE;
    }

    public int mend() {
        return sheet.isThere() ? slips.fewest() : NONE;
    }

    public int lean(int i) {
        if (wrong() != NONE) {
            return HIDDEN;
        }
        leanest.refresh();
        return i == NONE ? leanest.total() : leanest.leftAt(i);
    }

    public int heart() {
        return sheet.isThere() ? results.totalLost() : NONE;
    }

    public int drawn(long seed, int rub) {
        if (!sheet.isThere() || rub < 0 || rub > 100) {
            return NONE;
        }
        draw = seed;
        int x = drawNumber(sheet.lengthOf(sheet.rowOfX()));
        int y = drawNumber(sheet.lengthOf(sheet.rowOfY()));
        if (!search.isPossible(x, y)) {
            return NONE;
        }
        search.writeRows(x, y);
        for (int q = 0; q < PLACES; q++) {
            if (sheet.holds(q) && drawBelow(100) < rub) {
                sheet.write(q, LOST);
            }
        }
        acts.forget();
        return sheet.told();
    }

    public int image() {
        if (!sheet.isThere()) {
            return NONE;
        }
        kept.copyFrom(sheet);
        imageKept = true;
        return sheet.told();
    }

    public int back() {
        if (!imageKept) {
            return NONE;
        }
        sheet.copyFrom(kept);
        acts.forget();
        return sheet.told();
    }

    public int unlike() {
        if (!imageKept) {
            return NONE;
        }
        int unlike = 0;
        for (int q = 0; q < PLACES; q++) {
            boolean here = sheet.holds(q);
            boolean there = kept.holds(q);
            if (here != there || (here && sheet.signAt(q) != kept.signAt(q))) {
                unlike++;
            }
        }
        return unlike;
    }

    public int count(int what) {
        switch (what) {
            case 0: return sheet.kind;
            case 1: return sheet.isThere() ? sheet.base : 0;
            case 2: return sheet.isThere() ? sheet.rest : 0;
            case 3: return sheet.rows;
            case 4: return sheet.told();
            case 5: return sheet.signsWithin(LOST, LOST);
            case 6: return sheet.signsWithin(FIRST_LETTER, LAST_LETTER);
            case 7: return costs;
            case 8: return tape.size();
            case 9: return acts.size();
            default: return HIDDEN;
        }
    }

    private int takeSlate() {
        if (sheetReader.faultOf(tape) != NONE) {
            return NONE;
        }
        sheet.copyFrom(sheetReader.lastRead());
        acts.forget();
        imageKept = false;
        tape.cutTo(0);
        return sheet.rows;
    }

    private int takeCost() {
        if (costs >= MOST_COSTS || costReader.faultOf(tape) != NONE) {
            return NONE;
        }
        costTape(costs).copyFrom(tape);
        tape.cutTo(0);
        costs++;
        return costs - 1;
    }

    /** The tape itself stands in where there is no such cost. */
    private Tape costTape(int i) {
        Tape found = i >= 0 && i < costTapes.length ? costTapes[i] : null;
        return found == null ? tape : found;
    }

    private int act(int place, int sign) {
        acts.remember(place, sheet.signAt(place));
        sheet.write(place, sign);
        return acts.size();
    }

    private int worthAt(int place, int figures) {
        if (holding < 0) {
            return 0;
        }
        int row = rowOf(place);
        costReader.setLetter(0, row);
        costReader.setLetter(1, place - placeOf(row, 0));
        costReader.setLetter(2, sheet.rows);
        costReader.setLetter(3, sheet.lengthOf(row));
        costReader.setLetter(4, figures);
        return costReader.faultOf(costTape(holding)) == NONE ? costReader.worth() : 0;
    }

    private int drawNumber(int figures) {
        int number = 0;
        for (int n = 0; n < figures; n++) {
            boolean leads = n == 0 && figures > 1;
            int figure = leads ? drawBelow(sheet.base - 1) + 1 : drawBelow(sheet.base);
            number = number * sheet.base + figure;
        }
        return number;
    }

    private int drawBelow(int k) {
        draw = draw * 6364136223846793005L + 1442695040888963407L;
        return k <= 0 ? 0 : (int) ((draw >>> 33) % k);
    }

    private void appendBytes(int four) {
        for (int shift = 24; shift >= 0; shift -= 8) {
            int one = (four >>> shift) & 255;
            if (one != 0) {
                tape.append(one);
            }
        }
    }

    private static int bytesIn(int four) {
        int bytes = 0;
        for (int shift = 24; shift >= 0; shift -= 8) {
            if (((four >>> shift) & 255) != 0) {
                bytes++;
            }
        }
        return bytes;
    }

    private static long commonDivisor(long a, long b) {
        long more = a;
        long less = b;
        for (int n = 0; n < 1000 && less != 0; n++) {
            long left = more % less;
            more = less;
            less = left;
        }
        return more;
    }

    private static int onlyFigure(int figures) {
        for (int figure = 0; figure < MOST_BASE; figure++) {
            if (figures == 1 << figure) {
                return figure;
            }
        }
        return NONE;
    }

    private static int placeOf(int row, int place) {
        return row * MOST_FIGURES + place;
    }

    private static int rowOf(int place) {
        return place / MOST_FIGURES;
    }

    private static int codeOf(int place) {
        return place / MOST_FIGURES * 10 + place % MOST_FIGURES;
    }

    private static int power(int base, int n) {
        int power = 1;
        for (int i = 0; i < n; i++) {
            power *= base;
        }
        return power;
    }

    private static int pick(int[] list, int i) {
        return i >= 0 && i < list.length ? list[i] : 0;
    }

    private static void put(int[] list, int i, int value) {
        if (i >= 0 && i < list.length) {
            list[i] = value;
        }
    }

    /** Bytes fed one after the other. */
    private static final class Tape {
        private final int[] bytes = new int[MOST_BYTES];
        private int length;

        int size() {
            return length;
        }

        void append(int one) {
            if (length < MOST_BYTES) {
                put(bytes, length, one);
                length++;
            }
        }

        void cutTo(int n) {
            length = n;
        }

        void copyFrom(Tape other) {
            length = other.length;
            for (int i = 0; i < length; i++) {
                put(bytes, i, pick(other.bytes, i));
            }
        }
    }

    /** Reads the signs of a text one by one and stays at the first that cannot stand there. */
    private static final class Signs {
        private int[] bytes = new int[0];
        private int length;
        private int next;
        private boolean stopped;

        void open(Tape source) {
            bytes = source.bytes;
            length = source.length;
            next = 0;
            stopped = false;
        }

        int stoppedWhere() {
            return stopped ? next : NONE;
        }

        void stop() {
            stopped = true;
        }

        /** The next sign that is no blank. */
        int peek() {
            if (stopped) {
                return TEXT_FAILED;
            }
            while (next >= 0 && next < length && next < bytes.length && bytes[next] == ' ') {
                next++;
            }
            return next >= 0 && next < length && next < bytes.length ? bytes[next] : TEXT_ENDS;
        }

        void step() {
            if (!stopped) {
                next++;
            }
        }

        boolean take(int sign) {
            if (peek() != sign) {
                stop();
                return false;
            }
            next++;
            return true;
        }

        /** A number of at most so many digits; one out of bounds stops at its last digit. */
        int number(int mostDigits, int low, int high) {
            int number = 0;
            int digits = 0;
            int sign = peek();
            while (sign >= '0' && sign <= '9' && digits < mostDigits) {
                number = number * 10 + sign - '0';
                digits++;
                next++;
                sign = next < length ? pick(bytes, next) : TEXT_ENDS;
            }
            if (digits == 0 || (sign >= '0' && sign <= '9')) {
                stop();
            } else if (number < low || number > high) {
                next--;
                stop();
            }
            return number;
        }
    }

    /** The rows of a slate: a figure, lost (10) or a letter (11 ..) at every place. */
    private static final class Sheet {
        private int kind = NONE;
        private int base = MOST_BASE;
        private int rest;
        private int rows;
        // Grows with every change, so that what was reckoned of the signs is known to be old.
        private int changes;
        // Grows with every change of kind, base, rest or lengths alone.
        private int shapes;
        private final int[] lengths = new int[MOST_ROWS];
        private final int[] marks = new int[PLACES];

        boolean isThere() {
            return kind != NONE;
        }

        boolean hasRow(int row) {
            return row >= 0 && row < rows;
        }

        int lengthOf(int row) {
            return row >= 0 && row < rows && row < lengths.length ? lengths[row] : 0;
        }

        boolean has(int row, int place) {
            return place >= 0 && place < lengthOf(row);
        }

        boolean holds(int q) {
            return q >= 0 && q % MOST_FIGURES < lengthOf(q / MOST_FIGURES);
        }

        int signAt(int q) {
            return pick(marks, q);
        }

        boolean isUnknown(int q) {
            return holds(q) && signAt(q) >= LOST;
        }

        int rowOfX() {
            return kind == DIVIDED ? 2 : 0;
        }

        int rowOfY() {
            return 1;
        }

        void begin(int newKind) {
            kind = newKind;
            base = MOST_BASE;
            rest = 0;
            rows = 0;
            changes++;
            shapes++;
        }

        void write(int q, int sign) {
            put(marks, q, sign);
            changes++;
        }

        void setLength(int row, int length) {
            put(lengths, row, length);
            changes++;
            shapes++;
        }

        void copyFrom(Sheet other) {
            kind = other.kind;
            base = other.base;
            rest = other.rest;
            rows = other.rows;
            changes++;
            shapes++;
            for (int row = 0; row < MOST_ROWS; row++) {
                put(lengths, row, pick(other.lengths, row));
            }
            for (int q = 0; q < PLACES; q++) {
                put(marks, q, pick(other.marks, q));
            }
        }

        int signsWithin(int low, int high) {
            int found = 0;
            for (int q = 0; q < PLACES; q++) {
                if (holds(q) && signAt(q) >= low && signAt(q) <= high) {
                    found++;
                }
            }
            return found;
        }

        int told() {
            return signsWithin(0, LOST - 1);
        }

        boolean isFull() {
            return isThere() && signsWithin(LOST, LAST_LETTER) == 0;
        }

        int firstPlaceOf(int sign) {
            for (int q = 0; q < PLACES; q++) {
                if (holds(q) && signAt(q) == sign) {
                    return q;
                }
            }
            return NONE;
        }

        int numberIn(int row) {
            int number = 0;
            for (int place = 0; place < lengthOf(row); place++) {
                number = number * base + signAt(placeOf(row, place));
            }
            return number;
        }
    }

    /** Reads a text as a slate. */
    private static final class SheetReader {
        private final Signs signs;
        private final Sheet read = new Sheet();

        SheetReader(Signs signs) {
            this.signs = signs;
        }

        Sheet lastRead() {
            return read;
        }

        int faultOf(Tape source) {
            signs.open(source);
            read.begin(kindOf(signs.peek()));
            if (!read.isThere()) {
                signs.stop();
                return signs.stoppedWhere();
            }
            signs.step();
            if (signs.peek() == 'b') {
                signs.step();
                read.base = signs.number(2, 4, MOST_BASE);
            }
            if (read.kind == DIVIDED && signs.peek() == 'r') {
                signs.step();
                read.rest = signs.number(2, 0, 99);
            }
            readRows();
            return signs.stoppedWhere();
        }

        private static int kindOf(int sign) {
            switch (sign) {
                case 't': return TIMES;
                case 'd': return DIVIDED;
                case 's': return TOGETHER;
                case 'm': return LESS;
                default: return NONE;
            }
        }

        private void readRows() {
            for (int row = 0; row < MOST_ROWS; row++) {
                if (row >= 3 && row >= rowsDue()) {
                    break;
                }
                if (!signs.take(';')) {
                    return;
                }
                read.rows = row + 1;
                readFigures(row);
            }
            if (signs.peek() != TEXT_ENDS) {
                signs.stop();
            }
        }

        private int rowsDue() {
            if (read.kind == DIVIDED) {
                return 3 + 2 * read.lengthOf(2);
            }
            return read.kind == TIMES && read.lengthOf(1) == 2 ? 5 : 3;
        }

        private void readFigures(int row) {
            int most = mostFigures(row);
            int figures = 0;
            int sign = signOf(signs.peek());
            while (sign >= 0 && figures < most) {
                read.write(placeOf(row, figures), sign);
                figures++;
                signs.step();
                sign = signOf(signs.peek());
            }
            read.setLength(row, figures);
            if (figures == 0 || sign >= 0) {
                signs.stop();
            }
        }

        private int mostFigures(int row) {
            if (row == read.rowOfX()) {
                return 3;
            }
            return row == read.rowOfY() ? 2 : MOST_FIGURES;
        }

        private int signOf(int one) {
            if (one >= '0' && one < '0' + read.base) {
                return one - '0';
            }
            if (one >= 'a' && one <= 'h') {
                return one - 'a' + FIRST_LETTER;
            }
            return one == '*' ? LOST : NONE;
        }
    }

    /** Reads a text as a cost, and reckons its worth as it reads. */
    private static final class CostReader {
        private final Signs signs;
        private final int[] letters = new int[COST_LETTERS];
        private boolean found;
        private int worth;

        CostReader(Signs signs) {
            this.signs = signs;
        }

        void setLetter(int which, int value) {
            put(letters, which, value);
        }

        int worth() {
            return worth;
        }

        /** Reads a whole text: the byte of its fault, or NONE. */
        int faultOf(Tape source) {
            signs.open(source);
            found = false;
            worth = 0;
            for (int n = 0; n < MOST_BYTES; n++) {
                if (!signs.take('y') || !signs.take(':')) {
                    break;
                }
                readClause();
                if (signs.peek() == TEXT_ENDS || !signs.take(';')) {
                    break;
                }
            }
            return signs.stoppedWhere();
        }

        private void readClause() {
            int sign = signs.peek();
            boolean holds = true;
            boolean conditioned = sign == '!' || sign == '(';
            int sum = 0;
            if (conditioned) {
                holds = anyTruth(0, false, 0);
            } else {
                sum = sum(0);
                if (compares(signs.peek())) {
                    conditioned = true;
                    holds = anyTruth(0, true, sum);
                }
            }
            if (conditioned) {
                signs.take('?');
                sum = sum(0);
            }
            if (holds && !found) {
                found = true;
                worth = sum;
            }
        }

        /** A condition; begun: the sum at its very beginning has been read already. */
        private boolean anyTruth(int depth, boolean begun, int left) {
            boolean holds = allUnits(depth, begun, left);
            for (int n = 0; n < MOST_BYTES && signs.peek() == '|'; n++) {
                signs.step();
                boolean next = allUnits(depth, false, 0);
                holds = holds || next;
            }
            return holds;
        }

        private boolean allUnits(int depth, boolean begun, int left) {
            boolean holds = unit(depth, begun, left);
            for (int n = 0; n < MOST_BYTES && signs.peek() == '&'; n++) {
                signs.step();
                boolean next = unit(depth, false, 0);
                holds = holds && next;
            }
            return holds;
        }

        private boolean unit(int depth, boolean begun, int left) {
            int sign = begun ? TEXT_ENDS : signs.peek();
            if (sign == '!') {
                return goesDeeper(depth) && !unit(depth + 1, false, 0);
            }
            if (sign == '(') {
                boolean holds = goesDeeper(depth) && anyTruth(depth + 1, false, 0);
                signs.take(')');
                return holds;
            }
            int first = begun ? left : sum(depth);
            sign = signs.peek();
            if (!compares(sign)) {
                signs.stop();
                return false;
            }
            signs.step();
            int second = sum(depth);
            if (sign == '=') {
                return first == second;
            }
            return sign == '<' ? first < second : first > second;
        }

        private static boolean compares(int sign) {
            return sign == '=' || sign == '<' || sign == '>';
        }

        private boolean goesDeeper(int depth) {
            if (depth >= MOST_DEPTH) {
                signs.stop();
                return false;
            }
            signs.step();
            return true;
        }

        private int sum(int depth) {
            int sum = term(depth);
            for (int n = 0; n < MOST_BYTES; n++) {
                int sign = signs.peek();
                if (sign != '+' && sign != '-') {
                    return sum;
                }
                signs.step();
                int next = term(depth);
                sum = within(sign == '+' ? (long) sum + next : (long) sum - next);
            }
            return sum;
        }

        private int term(int depth) {
            int term = atom(depth);
            for (int n = 0; n < MOST_BYTES; n++) {
                int sign = signs.peek();
                if (sign != '*' && sign != '/') {
                    return term;
                }
                signs.step();
                int next = atom(depth);
                term = within(sign == '*' ? (long) term * next : quotient(term, next));
            }
            return term;
        }

        private int atom(int depth) {
            int sign = signs.peek();
            if (sign == '[') {
                int sum = goesDeeper(depth) ? sum(depth + 1) : 0;
                signs.take(']');
                return sum;
            }
            int which = letterOf(sign);
            if (which >= 0) {
                signs.step();
                return pick(letters, which);
            }
            return signs.number(4, 0, 9999);
        }

        private static int letterOf(int sign) {
            switch (sign) {
                case 'r': return 0;
                case 'p': return 1;
                case 'n': return 2;
                case 'l': return 3;
                case 'k': return 4;
                default: return NONE;
            }
        }

        private static long quotient(int a, int b) {
            return b == 0 ? 0 : a / b;
        }

        private static int within(long number) {
            return (int) Math.max(-MOST_WORTH, Math.min(MOST_WORTH, number));
        }
    }

    /** The latest acts: where, and what stood there ahead of each. */
    private static final class Acts {
        private final int[] places = new int[MOST_ACTS];
        private final int[] signs = new int[MOST_ACTS];
        private int first;
        private int size;

        int size() {
            return size;
        }

        void forget() {
            size = 0;
        }

        void remember(int place, int sign) {
            if (size == MOST_ACTS) {
                first = (first + 1) % MOST_ACTS;
                size--;
            }
            size++;
            put(places, latest(), place);
            put(signs, latest(), sign);
        }

        int latestPlace() {
            return pick(places, latest());
        }

        int latestSign() {
            return pick(signs, latest());
        }

        void dropLatest() {
            if (size > 0) {
                size--;
            }
        }

        private int latest() {
            return (first + size - 1) % MOST_ACTS;
        }
    }

    /** Walks through all X and Y of the lengths told and stops at those by which the asked signs stand. */
    private static final class Search {
        private final Sheet sheet;
        private final int[] asked = new int[PLACES];
        private final int[] figures = new int[PLACES];
        private final int[] values = new int[MOST_ROWS];
        private final int[] low = new int[MOST_ROWS];
        private final int[] high = new int[MOST_ROWS];
        private final int[] toldIn = new int[MOST_ROWS];
        private final int[] missesOfY = new int[MOST_Y];
        private final int[] figureOfLetter = new int[LETTERS];
        private boolean lettered;
        private int slack;
        private int x;
        private int y;
        private int missesOfX;
        private int misses;

        Search(Sheet sheet) {
            this.sheet = sheet;
        }

        void askAsTold() {
            for (int q = 0; q < PLACES; q++) {
                put(asked, q, sheet.signAt(q));
            }
        }

        void askNothing() {
            for (int q = 0; q < PLACES; q++) {
                put(asked, q, LOST);
            }
        }

        void ask(int q, int sign) {
            put(asked, q, sign);
        }

        void coverRow(int row) {
            for (int place = 0; place < MOST_FIGURES; place++) {
                put(asked, placeOf(row, place), LOST);
            }
        }

        /** Slack: how many of the told figures may be otherwise. */
        void begin(int newSlack) {
            slack = newSlack;
            lettered = false;
            for (int row = 0; row < sheet.rows; row++) {
                int length = sheet.lengthOf(row);
                put(low, row, length <= 1 ? 0 : power(sheet.base, length - 1));
                put(high, row, power(sheet.base, length) - 1);
                put(toldIn, row, 0);
                for (int place = 0; place < length; place++) {
                    int sign = pick(asked, placeOf(row, place));
                    put(toldIn, row, pick(toldIn, row) + (sign < LOST ? 1 : 0));
                    lettered = lettered || sign >= FIRST_LETTER;
                }
            }
            int rowOfY = sheet.rowOfY();
            for (int n = 0; n < MOST_Y && n <= pick(high, rowOfY); n++) {
                put(missesOfY, n, missesIn(rowOfY, n));
            }
            beginAt(pick(low, sheet.rowOfX()));
        }

        /** The walk goes on at that X, with its first Y. */
        void beginAt(int newX) {
            x = newX - 1;
            y = pick(high, sheet.rowOfY());
        }

        boolean next() {
            int lastX = sheet.isThere() ? pick(high, sheet.rowOfX()) : NONE;
            int lastY = pick(high, sheet.rowOfY());
            for (int n = 0; n < PAIRS; n++) {
                if (y < lastY && missesOfX <= slack) {
                    y++;
                } else if (x < lastX) {
                    x++;
                    y = pick(low, sheet.rowOfY());
                    missesOfX = missesIn(sheet.rowOfX(), x);
                } else {
                    return false;
                }
                if (fits()) {
                    return true;
                }
            }
            return false;
        }

        private boolean fits() {
            misses = missesOfX + pick(missesOfY, y);
            if (misses > slack || !isPossible(x, y)) {
                return false;
            }
            reckon(x, y);
            if (!lengthsFit()) {
                return false;
            }
            for (int row = 0; row < sheet.rows; row++) {
                if (row != sheet.rowOfX() && row != sheet.rowOfY()) {
                    misses += missesIn(row, pick(values, row));
                }
                if (misses > slack) {
                    return false;
                }
            }
            return !lettered || lettersFit();
        }

        private boolean lengthsFit() {
            for (int row = 0; row < sheet.rows; row++) {
                int value = pick(values, row);
                if (value < pick(low, row) || value > pick(high, row)) {
                    return false;
                }
            }
            return true;
        }

        /** How many of a row's told figures are otherwise than in its number. */
        private int missesIn(int row, int number) {
            int base = sheet.base;
            int left = number;
            int found = 0;
            if (base < 2 || pick(toldIn, row) == 0) {
                return 0;
            }
            for (int place = sheet.lengthOf(row) - 1; place >= 0; place--) {
                int sign = pick(asked, placeOf(row, place));
                if (sign < LOST && sign != left % base) {
                    found++;
                }
                left /= base;
            }
            return found;
        }

        /** Writes down the figures of all rows. */
        void spell() {
            int base = sheet.base;
            for (int row = 0; row < sheet.rows && base > 1; row++) {
                int left = pick(values, row);
                for (int place = sheet.lengthOf(row) - 1; place >= 0; place--) {
                    put(figures, placeOf(row, place), left % base);
                    left /= base;
                }
            }
        }

        private boolean lettersFit() {
            int taken = 0;
            spell();
            for (int i = 0; i < LETTERS; i++) {
                put(figureOfLetter, i, NONE);
            }
            for (int q = 0; q < PLACES; q++) {
                int which = sheet.holds(q) ? pick(asked, q) - FIRST_LETTER : NONE;
                if (which < 0) {
                    continue;
                }
                int figure = pick(figures, q);
                int before = pick(figureOfLetter, which);
                if (before == NONE && (taken >> figure & 1) == 0) {
                    put(figureOfLetter, which, figure);
                    taken |= 1 << figure;
                } else if (before != figure) {
                    return false;
                }
            }
            return true;
        }

        boolean isPossible(int someX, int someY) {
            if (sheet.kind == DIVIDED) {
                return someY > 0 && sheet.rest < someY;
            }
            return sheet.kind != LESS || someY <= someX;
        }

        /** The numbers of all rows. */
        private void reckon(int someX, int someY) {
            if (sheet.kind == DIVIDED) {
                reckonDivided(someX, someY);
                return;
            }
            put(values, 0, someX);
            put(values, 1, someY);
            if (sheet.kind == TOGETHER) {
                put(values, 2, someX + someY);
            } else if (sheet.kind == LESS) {
                put(values, 2, someX - someY);
            } else if (sheet.rows == 5 && sheet.base > 1) {
                put(values, 2, someX * (someY % sheet.base));
                put(values, 3, someX * (someY / sheet.base));
                put(values, 4, someX * someY);
            } else {
                put(values, 2, someX * someY);
            }
        }

        private void reckonDivided(int someX, int someY) {
            int whole = someX * someY + sheet.rest;
            int base = sheet.base;
            int power = power(base, sheet.lengthOf(2) - 1);
            put(values, 0, whole);
            put(values, 1, someY);
            put(values, 2, someX);
            if (base < 2 || power < 1) {
                return;
            }
            int left = whole / power;
            for (int row = 3; row + 1 < sheet.rows && power > 0; row += 2) {
                int part = someY * (someX / power % base);
                put(values, row, part);
                left -= part;
                power /= base;
                if (power > 0) {
                    left = left * base + whole / power % base;
                }
                put(values, row + 1, left);
            }
        }

        int figureAt(int q) {
            return pick(figures, q);
        }

        int valueOf(int row) {
            return pick(values, row);
        }

        /** Of a full slate the first place that is otherwise than its X and Y ask. */
        int firstWrong() {
            int someX = sheet.numberIn(sheet.rowOfX());
            int someY = sheet.numberIn(sheet.rowOfY());
            if (beginsWithNought(sheet.rowOfX()) || beginsWithNought(sheet.rowOfY()) || !isPossible(someX, someY)) {
                return 10 * sheet.rowOfX();
            }
            reckon(someX, someY);
            spell();
            for (int row = 0; row < sheet.rows; row++) {
                if (lengthOf(pick(values, row)) != sheet.lengthOf(row)) {
                    return 10 * row;
                }
                for (int place = 0; place < sheet.lengthOf(row); place++) {
                    int q = placeOf(row, place);
                    if (pick(figures, q) != sheet.signAt(q)) {
                        return codeOf(q);
                    }
                }
            }
            return NONE;
        }

        private boolean beginsWithNought(int row) {
            return sheet.lengthOf(row) > 1 && sheet.signAt(placeOf(row, 0)) == 0;
        }

        /** All rows as X and Y ask, each as long as it is then. */
        void writeRows(int someX, int someY) {
            reckon(someX, someY);
            for (int row = 0; row < sheet.rows; row++) {
                sheet.setLength(row, lengthOf(pick(values, row)));
            }
            spell();
            for (int q = 0; q < PLACES; q++) {
                if (sheet.holds(q)) {
                    sheet.write(q, pick(figures, q));
                }
            }
        }

        private int lengthOf(int value) {
            int length = 1;
            int bound = sheet.base;
            while (length < MOST_FIGURES && value >= bound) {
                length++;
                bound *= sheet.base;
            }
            return length;
        }
    }

    /** What all answers together say, reckoned anew only after the slate has changed. */
    private static final class Results {
        private final Sheet sheet;
        private final Search search;
        private final int[] withFigure = new int[PLACES * MOST_BASE];
        private final int[] withX = new int[MOST_X];
        private final int[] covered = new int[MOST_ROWS];
        private int total;
        private int lostTotal;
        private int reckonedAt = NONE;
        private int coveredAt = NONE;
        private int lostAt = NONE;

        Results(Sheet sheet, Search search) {
            this.sheet = sheet;
            this.search = search;
        }

        int total() {
            refresh();
            return total;
        }

        private void refresh() {
            if (reckonedAt == sheet.changes) {
                return;
            }
            reckonedAt = sheet.changes;
            total = 0;
            for (int i = 0; i < withFigure.length; i++) {
                withFigure[i] = 0;
            }
            for (int i = 0; i < withX.length; i++) {
                withX[i] = 0;
            }
            search.askAsTold();
            search.begin(0);
            for (int n = 0; n < PAIRS && search.next(); n++) {
                total++;
                put(withX, search.x, pick(withX, search.x) + 1);
                addFigures();
            }
        }

        private void addFigures() {
            search.spell();
            for (int row = 0; row < sheet.rows; row++) {
                for (int place = 0; place < sheet.lengthOf(row); place++) {
                    int q = placeOf(row, place);
                    int i = q * MOST_BASE + search.figureAt(q);
                    put(withFigure, i, pick(withFigure, i) + 1);
                }
            }
        }

        int answer(int i) {
            int left = i;
            refresh();
            if (i < 0 || i >= total) {
                return NONE;
            }
            int x = 0;
            while (x < MOST_X && left >= pick(withX, x)) {
                left -= pick(withX, x);
                x++;
            }
            search.askAsTold();
            search.begin(0);
            search.beginAt(x);
            for (int n = 0; n <= left; n++) {
                if (!search.next()) {
                    return NONE;
                }
            }
            return 100 * search.x + search.y;
        }

        private int leftBy(int q, int figure) {
            return pick(withFigure, q * MOST_BASE + figure);
        }

        int figuresAt(int q) {
            int bits = 0;
            refresh();
            for (int figure = 0; figure < MOST_BASE; figure++) {
                if (leftBy(q, figure) > 0) {
                    bits |= 1 << figure;
                }
            }
            return bits;
        }

        /** Of the answers reckoned last, as squaresAt, too: bestPlace goes ahead of both. */
        int mostLeftAt(int q) {
            int most = 0;
            for (int figure = 0; figure < MOST_BASE; figure++) {
                most = Math.max(most, leftBy(q, figure));
            }
            return most;
        }

        long squaresAt(int q) {
            long squares = 0;
            for (int figure = 0; figure < MOST_BASE; figure++) {
                long left = leftBy(q, figure);
                squares += left * left;
            }
            return squares;
        }

        int bestPlace() {
            int best = NONE;
            refresh();
            if (!sheet.isThere() || total == 0) {
                return NONE;
            }
            for (int q = 0; q < PLACES; q++) {
                if (sheet.isUnknown(q) && (best == NONE || mostLeftAt(q) < mostLeftAt(best))) {
                    best = q;
                }
            }
            return best;
        }

        int totalUnder(int row) {
            refreshCovered();
            if (pick(covered, row) == NONE) {
                search.askAsTold();
                search.coverRow(row);
                put(covered, row, found());
            }
            return pick(covered, row);
        }

        int totalLost() {
            if (lostAt != sheet.shapes) {
                lostAt = sheet.shapes;
                search.askNothing();
                lostTotal = found();
            }
            return lostTotal;
        }

        private void refreshCovered() {
            if (coveredAt == sheet.changes) {
                return;
            }
            coveredAt = sheet.changes;
            for (int row = 0; row < MOST_ROWS; row++) {
                put(covered, row, NONE);
            }
        }

        private int found() {
            int found = 0;
            search.begin(0);
            for (int n = 0; n < PAIRS && search.next(); n++) {
                found++;
            }
            return found;
        }
    }

    /** Single figures that were told wrongly, and how many at least were. */
    private static final class Slips {
        private final Sheet sheet;
        private final Search search;
        private final int[] mends = new int[PLACES];
        private int total;
        private int fewest;
        private int reckonedAt = NONE;

        Slips(Sheet sheet, Search search) {
            this.sheet = sheet;
            this.search = search;
        }

        private void refresh() {
            if (reckonedAt == sheet.changes) {
                return;
            }
            reckonedAt = sheet.changes;
            fewest = MOST_MENDED + 1;
            for (int q = 0; q < PLACES; q++) {
                put(mends, q, 0);
            }
            search.askAsTold();
            search.begin(MOST_MENDED);
            for (int n = 0; n < PAIRS && search.next(); n++) {
                fewest = Math.min(fewest, search.misses);
                if (search.misses == 1) {
                    addMend();
                }
            }
            total = 0;
            for (int q = 0; q < PLACES; q++) {
                total += Integer.bitCount(pick(mends, q));
            }
        }

        private void addMend() {
            search.spell();
            for (int q = 0; q < PLACES; q++) {
                boolean told = sheet.holds(q) && sheet.signAt(q) < LOST;
                if (told && sheet.signAt(q) != search.figureAt(q)) {
                    put(mends, q, pick(mends, q) | 1 << search.figureAt(q));
                }
            }
        }

        int total() {
            refresh();
            return total;
        }

        int fewest() {
            refresh();
            return fewest > MOST_MENDED ? NONE : fewest;
        }

        int slipAt(int i) {
            int left = i;
            refresh();
            if (i < 0 || i >= total) {
                return NONE;
            }
            for (int q = 0; q < PLACES; q++) {
                for (int figure = 0; figure < MOST_BASE; figure++) {
                    boolean mends = (pick(this.mends, q) >> figure & 1) == 1;
                    if (mends && left == 0) {
                        return 1000 * rowOf(q) + 10 * (q % MOST_FIGURES) + figure;
                    }
                    left -= mends ? 1 : 0;
                }
            }
            return NONE;
        }
    }

    /** Which figures of a right slate are left when as many as can be are left out, from the first one on. */
    private static final class Lean {
        private final Sheet sheet;
        private final Search search;
        private final int[] numbers = new int[MOST_ROWS];
        private long left;
        private int reckonedAt = NONE;

        Lean(Sheet sheet, Search search) {
            this.sheet = sheet;
            this.search = search;
        }

        /**
         * The first place that has to stay is the earliest at which some other sum is otherwise
         * for the last time; only sums that are alike there, too, are to be told apart by later places.
         */
        void refresh() {
            if (reckonedAt == sheet.changes) {
                return;
            }
            reckonedAt = sheet.changes;
            left = 0;
            for (int row = 0; row < sheet.rows; row++) {
                put(numbers, row, sheet.numberIn(row));
            }
            search.askNothing();
            for (int n = 0; n < PLACES; n++) {
                int q = nextThatStays();
                if (q < 0) {
                    return;
                }
                left |= 1L << q;
                search.ask(q, sheet.signAt(q));
            }
        }

        private int nextThatStays() {
            int earliest = NONE;
            search.begin(0);
            for (int n = 0; n < PAIRS && search.next(); n++) {
                int last = lastUnlike();
                if (last >= 0 && (earliest == NONE || last < earliest)) {
                    earliest = last;
                }
            }
            return earliest;
        }

        /** The last place at which the sum found is otherwise than the slate tells. */
        private int lastUnlike() {
            for (int row = sheet.rows - 1; row >= 0; row--) {
                if (search.valueOf(row) != pick(numbers, row)) {
                    return lastUnlikeIn(row, search.valueOf(row), pick(numbers, row));
                }
            }
            return NONE;
        }

        private int lastUnlikeIn(int row, int found, int told) {
            int base = sheet.base;
            int a = found;
            int b = told;
            int place = sheet.lengthOf(row) - 1;
            while (place > 0 && base > 1 && a % base == b % base) {
                a /= base;
                b /= base;
                place--;
            }
            return placeOf(row, place);
        }

        int total() {
            return Long.bitCount(left);
        }

        int leftAt(int i) {
            int ahead = i;
            if (i < 0) {
                return NONE;
            }
            for (int q = 0; q < PLACES; q++) {
                boolean stays = (left >> q & 1) == 1;
                if (stays && ahead == 0) {
                    return codeOf(q);
                }
                ahead -= stays ? 1 : 0;
            }
            return NONE;
        }
    }

    /** Whether a few looks, each chosen by what was seen, leave one of few answers. */
    private static final class Looker {
        private final Sheet sheet;
        private final Search search;
        private final int[] values = new int[MOST_TO_LOOK * MOST_ROWS];
        private final int[] members = new int[MOST_TO_LOOK];
        private int total;
        private int size;

        Looker(Sheet sheet, Search search) {
            this.sheet = sheet;
            this.search = search;
        }

        boolean settles(int looks) {
            gather();
            if (total == 1) {
                return true;
            }
            if (looks == 0) {
                return false;
            }
            return looks == 1 ? oneLookSettles() : twoLooksSettle();
        }

        private void gather() {
            total = 0;
            search.askAsTold();
            search.begin(0);
            for (int n = 0; n < MOST_TO_LOOK && search.next(); n++) {
                for (int row = 0; row < MOST_ROWS; row++) {
                    put(values, n * MOST_ROWS + row, search.valueOf(row));
                }
                put(members, n, n);
                total++;
            }
            size = total;
        }

        private boolean twoLooksSettle() {
            for (int q = 0; q < PLACES; q++) {
                if (sheet.isUnknown(q) && settlesAfter(q)) {
                    return true;
                }
            }
            return false;
        }

        private boolean settlesAfter(int q) {
            for (int figure = 0; figure < sheet.base; figure++) {
                size = 0;
                for (int n = 0; n < total; n++) {
                    if (figureOf(n, q) == figure) {
                        put(members, size, n);
                        size++;
                    }
                }
                if (!oneLookSettles()) {
                    return false;
                }
            }
            return true;
        }

        /** Of the members alone. */
        private boolean oneLookSettles() {
            if (size <= 1) {
                return true;
            }
            for (int q = 0; q < PLACES && size <= sheet.base; q++) {
                if (sheet.isUnknown(q) && allUnlikeAt(q)) {
                    return true;
                }
            }
            return false;
        }

        private boolean allUnlikeAt(int q) {
            int seen = 0;
            for (int i = 0; i < size; i++) {
                int bit = 1 << figureOf(pick(members, i), q);
                if ((seen & bit) != 0) {
                    return false;
                }
                seen |= bit;
            }
            return true;
        }

        private int figureOf(int answer, int q) {
            int row = rowOf(q);
            int base = sheet.base;
            int power = power(base, sheet.lengthOf(row) - 1 - q % MOST_FIGURES);
            if (power < 1 || base < 2) {
                return 0;
            }
            return pick(values, answer * MOST_ROWS + row) / power % base;
        }
    }
}
