/** A join loom: tables of facts, questions over them, and answers woven name by name. */
public final class JoinLoom {
    public static final int NONE = -1;
    public static final int NO = -2147483648;

    private static final int TOO_MANY = -2;
    private static final int MOST_TABLES = 8;
    private static final int MOST_COLUMNS = 3;
    private static final int MOST_ROWS = 40;
    private static final int MOST_NAMES = 6;
    private static final int MOST_PARTS = 10;
    private static final int MOST_HAS = 5;
    private static final int MOST_MEETINGS = 500;
    private static final int MOST_NAMES_TO_ORDER = 4;
    private static final int ABOVE_ALL_RINGS = MOST_ROWS * MOST_ROWS;
    private static final int SPOT_BITS = 6;
    private static final int SPOTS = 1 << SPOT_BITS;

    private static final int HAS = 0;
    private static final int NOT = 1;
    private static final int SAME = 2;
    private static final int LESS = 3;

    private final Table[] tables = new Table[MOST_TABLES];
    private final Question question = new Question();
    private final Woven woven = new Woven();
    private final Answers kept = new Answers();
    private final Difference difference = new Difference();
    private final RingWalk ringWalk = new RingWalk();
    private final Cover leastCover = new Cover();
    private final Weaver weaver = new Weaver();

    public JoinLoom() {
        for (int t = 0; t < MOST_TABLES; t++) {
            tables[t] = new Table();
        }
    }

    public boolean table(int t, int columns) {
        if (t < 0 || t >= MOST_TABLES || columns < 1 || columns > MOST_COLUMNS || question.asksOf(t)) {
            return false;
        }
        tables[t].open(columns);
        return true;
    }

    public int put(int t, int a, int b, int c) {
        Table table = tableAt(t);
        return table == null ? NONE : table.insert(a, b, c);
    }

    public boolean drop(int t, int a, int b, int c) {
        Table table = tableAt(t);
        return table != null && table.remove(a, b, c);
    }

    public int rows(int t) {
        Table table = tableAt(t);
        return table == null ? NONE : table.size;
    }

    public int row(int t, int i, int c) {
        Table table = tableAt(t);
        return table == null ? 0 : table.cell(i, c);
    }

    public boolean ask(int n) {
        if (n < 1 || n > MOST_NAMES) {
            return false;
        }
        question.open(n);
        return true;
    }

    public int part(int kind, int t) {
        Table table = tableAt(t);
        if ((kind != HAS && kind != NOT) || table == null || !question.hasRoomFor(kind)) {
            return NONE;
        }
        return question.addFact(kind, t, table.columns);
    }

    public int name(int k) {
        Part last = openPart();
        return last == null || !question.hasName(k) ? NONE : last.addName(k);
    }

    public int value(int v) {
        Part last = openPart();
        return last == null ? NONE : last.addTold(v);
    }

    public int compare(int kind, int k, boolean byName, int v) {
        boolean known = question.hasName(k) && (!byName || question.hasName(v));
        if ((kind != SAME && kind != LESS) || !known || !question.hasRoomFor(kind)) {
            return NONE;
        }
        return question.addComparison(kind, k, byName, v);
    }

    public boolean order(int i, int k) {
        if (!question.hasName(i) || !question.hasName(k)) {
            return false;
        }
        question.bringForward(i, k);
        return true;
    }

    public int weave() {
        if (!question.stands()) {
            return NONE;
        }
        weaver.prepare(tables, question);
        return weaver.weaveInto(question, woven) ? woven.answers.size : TOO_MANY;
    }

    public int answer(int i, int k) {
        return woven.answers.at(i, k);
    }

    public int meetings(int i) {
        return woven.metAt(i);
    }

    public int witness(int i, int p) {
        return woven.witnessOf(i, p);
    }

    public long sum(int k, int what) {
        Answers answers = woven.answers;
        if (!answers.carries(k)) {
            return 0;
        }
        switch (what) {
            case 0:
                return answers.total(k);
            case 1:
                return answers.numbers(k);
            case 2:
                return answers.greatest(k);
            case 3:
                return answers.least(k);
            case 4:
                return answers.differentValues(k);
            default:
                return 0;
        }
    }

    public long group(int k, int v, int how, int j) {
        Answers answers = woven.answers;
        if (!answers.carries(k)) {
            return 0;
        }
        if (how == 0) {
            return answers.howManyWith(k, v);
        }
        return how == 1 && answers.carries(j) ? answers.totalWith(k, v, j) : 0;
    }

    public int keep() {
        if (woven.answers.size == NONE) {
            return NONE;
        }
        kept.copyFrom(woven.answers);
        return kept.size;
    }

    public int delta(int what) {
        return findDifference(what) ? difference.size : NONE;
    }

    public int change(int what, int i, int k) {
        return findDifference(what) ? difference.at(i, k) : 0;
    }

    public long bound() {
        if (!question.stands()) {
            return NONE;
        }
        leastCover.find(tables, question);
        return leastCover.product;
    }

    public int cover(int p) {
        if (!question.stands()) {
            return NONE;
        }
        leastCover.find(tables, question);
        return leastCover.shareOf(p);
    }

    public int best() {
        if (!question.stands() || question.names > MOST_NAMES_TO_ORDER) {
            return NONE;
        }
        weaver.prepare(tables, question);
        weaver.meetEachSet(question);
        return weaver.takeBestOrder(question);
    }

    public int rings(int t) {
        Table table = tableAt(t);
        if (table == null || table.columns < 2) {
            return NONE;
        }
        return ringWalk.walk(table, ABOVE_ALL_RINGS);
    }

    public int ring(int t, int i, int k) {
        Table table = tableAt(t);
        if (table == null || table.columns < 2 || i < 0 || ringWalk.walk(table, i) <= i) {
            return 0;
        }
        return ringWalk.corner(k);
    }

    public int count(int what) {
        switch (what) {
            case 0:
                return question.names;
            case 1:
                return question.size;
            case 2:
                return woven.answers.size;
            case 3:
                return kept.size;
            case 4:
                return question.stands() ? 1 : 0;
            default:
                return question.nameInOrder(what);
        }
    }

    /** Table t, or null if there is none such. */
    private Table tableAt(int t) {
        if (t < 0 || t >= MOST_TABLES || tables[t].columns == 0) {
            return null;
        }
        return tables[t];
    }

    /** The last part if it is a HAS or NOT that lacks a place, or null. */
    private Part openPart() {
        Part last = question.lastPart();
        return last == null || !last.isFact() || last.isFull() ? null : last;
    }

    /** Finds what came (what 0) or went (1) since the answers were kept; false if they can't be set side by side. */
    private boolean findDifference(int what) {
        Answers now = woven.answers;
        if (kept.size == NONE || now.size == NONE || kept.names != now.names || what < 0 || what > 1) {
            return false;
        }
        if (what == 0) {
            difference.find(now, kept);
        } else {
            difference.find(kept, now);
        }
        return true;
    }

    /** Is a ordered ahead of b? One less wraps NO NUMBER round to the greatest int, behind all others. */
    private static boolean ahead(int a, int b) {
        return a - 1 < b - 1;
    }

    /** Below 0 if a is ordered ahead of b, 0 if they are alike, above 0 otherwise. */
    private static int inOrder(int a, int b) {
        return Integer.compare(a - 1, b - 1);
    }

    /**
     * A name's values are numbered in their order, and a meeting is one long: six bits a name with its value's number
     * (its spot), name 0 highest, so that longs are ordered as answers are.
     */
    private static int spotIn(long meeting, int k) {
        return (int) (meeting >>> shift(k)) & SPOTS - 1;
    }

    private static int shift(int k) {
        return (MOST_NAMES - 1 - k) * SPOT_BITS;
    }

    /** How many bits stand below the lowest one that is set. */
    private static int lowestPlace(long bits) {
        return Long.bitCount((bits & -bits) - 1);
    }

    /** The rows of one table, sorted; values that it has no columns for are held as 0. */
    private static final class Table {
        int columns;
        int size;
        private final int[] cells = new int[MOST_ROWS * MOST_COLUMNS];

        void open(int columnCount) {
            columns = columnCount;
            size = 0;
        }

        int insert(int a, int b, int c) {
            int second = columns > 1 ? b : 0;
            int third = columns > 2 ? c : 0;
            int place = placeFor(a, second, third);
            if (isAt(place, a, second, third)) {
                return 0;
            }
            if (size >= MOST_ROWS) {
                return NONE;
            }
            int start = place * MOST_COLUMNS;
            System.arraycopy(cells, start, cells, start + MOST_COLUMNS, (size - place) * MOST_COLUMNS);
            cells[start] = a;
            cells[start + 1] = second;
            cells[start + 2] = third;
            size++;
            return 1;
        }

        boolean remove(int a, int b, int c) {
            int second = columns > 1 ? b : 0;
            int third = columns > 2 ? c : 0;
            int place = placeFor(a, second, third);
            if (!isAt(place, a, second, third)) {
                return false;
            }
            size--;
            int start = place * MOST_COLUMNS;
            System.arraycopy(cells, start + MOST_COLUMNS, cells, start, (size - place) * MOST_COLUMNS);
            return true;
        }

        int cell(int i, int c) {
            if (i < 0 || i >= size || c < 0 || c >= columns) {
                return 0;
            }
            return cells[i * MOST_COLUMNS + c];
        }

        /** Is row i the first one with its first two values? */
        boolean beginsPair(int i) {
            return i == 0 || cell(i, 0) != cell(i - 1, 0) || cell(i, 1) != cell(i - 1, 1);
        }

        boolean hasPair(int a, int b) {
            for (int i = 0; i < size; i++) {
                if (cell(i, 0) == a && cell(i, 1) == b) {
                    return true;
                }
            }
            return false;
        }

        private boolean isAt(int i, int a, int b, int c) {
            return i < size && inOrderWith(i, a, b, c) == 0;
        }

        /** How many rows are ordered ahead of this one. */
        private int placeFor(int a, int b, int c) {
            int low = 0;
            int high = size;
            while (low < high) {
                int middle = (low + high) >>> 1;
                if (inOrderWith(middle, a, b, c) < 0) {
                    low = middle + 1;
                } else {
                    high = middle;
                }
            }
            return low;
        }

        private int inOrderWith(int i, int a, int b, int c) {
            int start = i * MOST_COLUMNS;
            int byFirst = inOrder(cells[start], a);
            if (byFirst != 0) {
                return byFirst;
            }
            int bySecond = inOrder(cells[start + 1], b);
            return bySecond != 0 ? bySecond : inOrder(cells[start + 2], c);
        }
    }

    /** A part of a question; the sides of a SAME or LESS are places too. A place with a told value has name NONE. */
    private static final class Part {
        int kind;
        int table;
        int places;
        int nameSet;
        private int placesDue;
        final int[] nameAt = new int[MOST_COLUMNS];
        final int[] toldAt = new int[MOST_COLUMNS];
        final int[] placeOf = new int[MOST_NAMES];

        void open(int partKind, int tableNumber, int due) {
            kind = partKind;
            table = tableNumber;
            places = 0;
            nameSet = 0;
            placesDue = due;
        }

        boolean isFact() {
            return kind == HAS || kind == NOT;
        }

        boolean isFull() {
            return places >= placesDue;
        }

        boolean carries(int k) {
            return (nameSet >> k & 1) != 0;
        }

        int addName(int k) {
            if (!carries(k)) {
                placeOf[k] = places;
                nameSet |= 1 << k;
            }
            return addPlace(k, 0);
        }

        int addTold(int v) {
            return addPlace(NONE, v);
        }

        /** Has row i the told values, and one value wherever one name stands? */
        boolean fits(Table rows, int i) {
            for (int c = 0; c < places; c++) {
                int due = nameAt[c] == NONE ? toldAt[c] : rows.cell(i, placeOf[nameAt[c]]);
                if (rows.cell(i, c) != due) {
                    return false;
                }
            }
            return true;
        }

        private int addPlace(int k, int v) {
            if (places >= MOST_COLUMNS) {
                return NONE;
            }
            nameAt[places] = k;
            toldAt[places] = v;
            places++;
            return places;
        }
    }

    /** The names of a question, its parts, and THE ORDER. */
    private static final class Question {
        int names;
        int size;
        final Part[] parts = new Part[MOST_PARTS];
        final int[] turns = new int[MOST_NAMES];
        private int hasCount;

        Question() {
            for (int p = 0; p < MOST_PARTS; p++) {
                parts[p] = new Part();
            }
        }

        void open(int n) {
            names = n;
            size = 0;
            hasCount = 0;
            for (int i = 0; i < MOST_NAMES; i++) {
                turns[i] = i;
            }
        }

        boolean hasName(int k) {
            return k >= 0 && k < names;
        }

        boolean asksOf(int t) {
            for (int p = 0; p < size; p++) {
                if (parts[p].isFact() && parts[p].table == t) {
                    return true;
                }
            }
            return false;
        }

        boolean hasRoomFor(int kind) {
            return names > 0 && size < MOST_PARTS && (kind != HAS || hasCount < MOST_HAS);
        }

        /** The last part, or null if there is none. */
        Part lastPart() {
            return size == 0 ? null : parts[size - 1];
        }

        int addFact(int kind, int t, int columns) {
            parts[size].open(kind, t, columns);
            if (kind == HAS) {
                hasCount++;
            }
            size++;
            return size - 1;
        }

        int addComparison(int kind, int k, boolean byName, int v) {
            Part part = parts[size];
            part.open(kind, NONE, 2);
            part.addName(k);
            if (byName) {
                part.addName(v);
            } else {
                part.addTold(v);
            }
            size++;
            return size - 1;
        }

        boolean stands() {
            int found = 0;
            for (int p = 0; p < size; p++) {
                if (!parts[p].isFull()) {
                    return false;
                }
                if (parts[p].kind == HAS) {
                    found |= parts[p].nameSet;
                }
            }
            return names > 0 && found == (1 << names) - 1;
        }

        /** Name k and the i-th one change places. */
        void bringForward(int i, int k) {
            for (int j = 0; j < names; j++) {
                if (turns[j] == k) {
                    turns[j] = turns[i];
                    turns[i] = k;
                    return;
                }
            }
        }

        int nameInOrder(int what) {
            return what < 10 || what - 10 >= names ? NONE : turns[what - 10];
        }
    }

    /** Meetings of all names in their order, and the values that they tell of; size is NONE until there are some. */
    private static final class Answers {
        int names;
        int size = NONE;
        private final int[][] domain = new int[MOST_NAMES][SPOTS];
        private final long[] meetings = new long[MOST_MEETINGS];

        void take(int n, int howMany, int[][] values, long[] found) {
            names = n;
            size = howMany;
            for (int k = 0; k < MOST_NAMES; k++) {
                System.arraycopy(values[k], 0, domain[k], 0, SPOTS);
            }
            System.arraycopy(found, 0, meetings, 0, MOST_MEETINGS);
        }

        void copyFrom(Answers other) {
            take(other.names, other.size, other.domain, other.meetings);
        }

        int at(int i, int k) {
            return i < 0 || i >= size || !carries(k) ? 0 : domain[k][spotIn(meetings[i], k)];
        }

        boolean carries(int k) {
            return size != NONE && k >= 0 && k < names;
        }

        /** How row i and the other's row j stand in order, as inOrder tells it. */
        int inOrderWith(int i, Answers other, int j) {
            for (int k = 0; k < names; k++) {
                int byName = inOrder(at(i, k), other.at(j, k));
                if (byName != 0) {
                    return byName;
                }
            }
            return 0;
        }

        long total(int k) {
            long total = 0;
            for (int i = 0; i < size; i++) {
                total += numberOrZero(i, k);
            }
            return total;
        }

        long numbers(int k) {
            return size - howManyWith(k, NO);
        }

        /** NO is the least int, so that it stays if there is no number. */
        long greatest(int k) {
            int greatest = NO;
            for (int i = 0; i < size; i++) {
                greatest = Math.max(greatest, at(i, k));
            }
            return greatest;
        }

        /** Of all values the one that is first in order: NO only if there is no number. */
        long least(int k) {
            int least = NO;
            for (int i = 0; i < size; i++) {
                if (ahead(at(i, k), least)) {
                    least = at(i, k);
                }
            }
            return least;
        }

        long howManyWith(int k, int v) {
            int found = 0;
            for (int i = 0; i < size; i++) {
                if (at(i, k) == v) {
                    found++;
                }
            }
            return found;
        }

        long totalWith(int k, int v, int j) {
            long total = 0;
            for (int i = 0; i < size; i++) {
                if (at(i, k) == v) {
                    total += numberOrZero(i, j);
                }
            }
            return total;
        }

        long differentValues(int k) {
            long spots = 0;
            for (int i = 0; i < size; i++) {
                spots |= 1L << spotIn(meetings[i], k);
            }
            return Long.bitCount(spots);
        }

        private int numberOrZero(int i, int k) {
            int v = at(i, k);
            return v == NO ? 0 : v;
        }
    }

    /** What was woven last, with all that hangs on it. The rows by which an answer is true are six bits a HAS. */
    private static final class Woven {
        final Answers answers = new Answers();
        private int parts;
        private final int[] hasNumber = new int[MOST_PARTS];
        private final int[] met = new int[MOST_NAMES];
        private final int[] witnesses = new int[MOST_MEETINGS];

        void takeParts(Question question) {
            int found = 0;
            parts = question.size;
            for (int p = 0; p < parts; p++) {
                boolean has = question.parts[p].kind == HAS;
                hasNumber[p] = has ? found : NONE;
                found += has ? 1 : 0;
            }
        }

        void setMet(int i, int howMany) {
            if (answers.carries(i)) {
                met[i] = howMany;
            }
        }

        int metAt(int i) {
            return answers.carries(i) ? met[i] : NONE;
        }

        void setWitnesses(int i, int places) {
            if (i >= 0 && i < answers.size) {
                witnesses[i] = places;
            }
        }

        int witnessOf(int i, int p) {
            if (i < 0 || i >= answers.size || p < 0 || p >= parts || hasNumber[p] == NONE) {
                return NONE;
            }
            return witnesses[i] >> hasNumber[p] * SPOT_BITS & SPOTS - 1;
        }
    }

    /** The answers that one list has and another has not. */
    private static final class Difference {
        int size;
        private Answers from;
        private final int[] places = new int[MOST_MEETINGS];

        void find(Answers mine, Answers theirs) {
            from = mine;
            size = 0;
            int j = 0;
            for (int i = 0; i < mine.size && i < MOST_MEETINGS; i++) {
                while (j < theirs.size && theirs.inOrderWith(j, mine, i) < 0) {
                    j++;
                }
                if (j >= theirs.size || theirs.inOrderWith(j, mine, i) != 0) {
                    places[size] = i;
                    size++;
                }
            }
        }

        int at(int i, int k) {
            return from == null || i < 0 || i >= size ? 0 : from.at(places[i], k);
        }
    }

    /** Walks the rings of a table in their order and holds the one at which it stopped. */
    private static final class RingWalk {
        private int met;
        private int a;
        private int b;
        private int c;

        /** How many rings were met up to the wanted one; above its number if it was met. */
        int walk(Table table, int wanted) {
            met = 0;
            for (int i = 0; i < table.size && met <= wanted; i++) {
                if (table.beginsPair(i) && ahead(table.cell(i, 0), table.cell(i, 1))) {
                    close(table, i, wanted);
                }
            }
            return met;
        }

        int corner(int k) {
            switch (k) {
                case 0:
                    return a;
                case 1:
                    return b;
                case 2:
                    return c;
                default:
                    return 0;
            }
        }

        /** Meets the rings that row i begins. */
        private void close(Table table, int i, int wanted) {
            int first = table.cell(i, 0);
            int second = table.cell(i, 1);
            for (int j = 0; j < table.size && met <= wanted; j++) {
                int third = table.cell(j, 1);
                boolean leads = table.cell(j, 0) == second && third != second && ahead(first, third);
                if (leads && table.beginsPair(j) && table.hasPair(third, first)) {
                    met++;
                    a = first;
                    b = second;
                    c = third;
                }
            }
        }
    }

    /** THE BOUND and THE COVER of a question that stands. */
    private static final class Cover {
        long product;
        private int carrierCount;
        private final int[] carriers = new int[MOST_HAS];
        private final int[] shares = new int[MOST_HAS];

        /** Trials go by their shares, part by part, so that the first of the least products has the least shares. */
        void find(Table[] tables, Question question) {
            int trials = gatherCarriers(question);
            int leastTrial = 0;
            product = NONE;
            for (int trial = 0; trial < trials; trial++) {
                takeTrial(trial);
                if (coversAllNames(question)) {
                    long found = productOfShares(tables, question);
                    if (product == NONE || found < product) {
                        product = found;
                        leastTrial = trial;
                    }
                }
            }
            takeTrial(leastTrial);
        }

        int shareOf(int p) {
            for (int h = 0; h < carrierCount; h++) {
                if (carriers[h] == p) {
                    return shares[h];
                }
            }
            return NONE;
        }

        /** Gathers every HAS that has a name; answers in how many ways shares can be given to them. */
        private int gatherCarriers(Question question) {
            int ways = 1;
            carrierCount = 0;
            for (int p = 0; p < question.size && carrierCount < MOST_HAS; p++) {
                Part part = question.parts[p];
                if (part.kind == HAS && part.nameSet != 0) {
                    carriers[carrierCount] = p;
                    carrierCount++;
                    ways *= 3;
                }
            }
            return ways;
        }

        private void takeTrial(int trial) {
            int rest = trial;
            for (int h = carrierCount - 1; h >= 0; h--) {
                shares[h] = rest % 3;
                rest /= 3;
            }
        }

        private boolean coversAllNames(Question question) {
            for (int k = 0; k < question.names; k++) {
                int halves = 0;
                for (int h = 0; h < carrierCount; h++) {
                    if (question.parts[carriers[h]].carries(k)) {
                        halves += shares[h];
                    }
                }
                if (halves < 2) {
                    return false;
                }
            }
            return true;
        }

        private long productOfShares(Table[] tables, Question question) {
            long found = 1;
            for (int h = 0; h < carrierCount; h++) {
                Part part = question.parts[carriers[h]];
                for (int half = 0; half < shares[h]; half++) {
                    found *= tables[part.table].size;
                }
            }
            return found;
        }
    }

    /** Weaves meetings name by name. The rows of a table that agree with a meeting are one long, a bit a row. */
    private static final class Weaver {
        private static final int SETS = 1 << MOST_NAMES_TO_ORDER;

        private final int[] domainSize = new int[MOST_NAMES];
        private final int[][] domain = new int[MOST_NAMES][SPOTS];
        private final long[] fitting = new long[MOST_PARTS];
        private final long[][] rowsWith = new long[MOST_PARTS * MOST_COLUMNS][SPOTS];
        private final int[][] spotOf = new int[MOST_PARTS * MOST_COLUMNS][SPOTS];
        private final int[] met = new int[MOST_NAMES + 1];
        private final long[][] slots = new long[2][MOST_MEETINGS];
        private final int[] spotNow = new int[MOST_NAMES];
        private final int[] valueNow = new int[MOST_NAMES];
        private final long[] agreeing = new long[MOST_PARTS];
        private final int[] setMet = new int[SETS];
        private final int[] lastOf = new int[SETS];
        private final int[] setTurns = new int[MOST_NAMES_TO_ORDER];

        /** Finds what hangs on the tables and parts alone, and whether there is a meeting of no names. */
        void prepare(Table[] tables, Question question) {
            boolean namelessHold = true;
            for (int p = 0; p < question.size; p++) {
                Part part = question.parts[p];
                fitting[p] = part.isFact() ? fittingRows(tables[part.table], part) : 0;
                if (part.isFact() && part.nameSet == 0) {
                    namelessHold = namelessHold && (fitting[p] != 0) == (part.kind == HAS);
                }
            }
            for (int k = 0; k < question.names; k++) {
                gatherDomain(tables, question, k);
            }
            for (int p = 0; p < question.size; p++) {
                Part part = question.parts[p];
                for (int c = 0; part.isFact() && c < part.places; c++) {
                    if (part.nameAt[c] != NONE) {
                        gatherRowsWith(tables[part.table], c, part.nameAt[c], pair(p, c));
                    }
                }
            }
            met[0] = namelessHold ? 1 : 0;
        }

        /** False if there are too many meetings: then what was woven before stays. */
        boolean weaveInto(Question question, Woven woven) {
            int names = question.names;
            if (meetAlong(question, question.turns, names) == TOO_MANY) {
                return false;
            }
            long[] found = slots[names & 1];
            sort(found, met[names]);
            woven.answers.take(names, met[names], domain, found);
            woven.takeParts(question);
            for (int i = 0; i < names; i++) {
                woven.setMet(i, met[i + 1]);
            }
            for (int i = 0; i < met[names]; i++) {
                agree(question, found[i], (1 << names) - 1);
                woven.setWitnesses(i, witnessesNow(question));
            }
            return true;
        }

        /**
         * How many meetings there are hangs on which names come first, not on their order: each set of names is met
         * once, in some order in which no meetings on the way are too many.
         */
        void meetEachSet(Question question) {
            int sets = Math.min(SETS, 1 << question.names);
            setMet[0] = met[0];
            for (int set = 1; set < sets; set++) {
                lastOf[set] = lastNameFor(question, set);
                setMet[set] = lastOf[set] == NONE ? TOO_MANY : meetAlong(question, setTurns, lineUp(set));
            }
        }

        /** How many meetings the best order has, which becomes the question's; TOO_MANY if there is none. */
        int takeBestOrder(Question question) {
            int fewest = TOO_MANY;
            int bestCode = 0;
            int codes = 1 << 2 * MOST_NAMES_TO_ORDER;
            for (int code = 0; code < codes; code++) {
                int together = meetingsTogether(question, code);
                if (together != TOO_MANY && (fewest == TOO_MANY || together < fewest)) {
                    fewest = together;
                    bestCode = code;
                }
            }
            for (int i = 0; fewest != TOO_MANY && i < question.names; i++) {
                question.turns[i] = codedName(bestCode, i);
            }
            return fewest;
        }

        private int meetingsTogether(Question question, int code) {
            int together = 0;
            int seen = 0;
            for (int i = 0; i < question.names; i++) {
                int name = codedName(code, i);
                int more = seen | 1 << name;
                if (name >= question.names || more == seen || setMet[more] == TOO_MANY) {
                    return TOO_MANY;
                }
                seen = more;
                together += setMet[seen];
            }
            return together;
        }

        /** A code has the names of an order in two bits each, the first name highest: codes go up as orders do. */
        private static int codedName(int code, int i) {
            return code >> 2 * (MOST_NAMES_TO_ORDER - 1 - i) & 3;
        }

        /** A name of the set without which its meetings are not too many, or NONE. */
        private int lastNameFor(Question question, int set) {
            for (int k = 0; k < question.names; k++) {
                int before = set & ~(1 << k);
                if (before != set && setMet[before] != TOO_MANY) {
                    return k;
                }
            }
            return NONE;
        }

        /** Lines up the names of a set, each behind those without which its own set is not too many. */
        private int lineUp(int set) {
            int howMany = Integer.bitCount(set);
            int rest = set;
            for (int i = howMany - 1; i >= 0; i--) {
                setTurns[i] = lastOf[rest];
                rest &= ~(1 << lastOf[rest]);
            }
            return howMany;
        }

        private static long fittingRows(Table table, Part part) {
            long rows = 0;
            for (int i = 0; i < table.size; i++) {
                if (part.fits(table, i)) {
                    rows |= 1L << i;
                }
            }
            return rows;
        }

        /** The values that the first HAS of name k has for it, in their order. */
        private void gatherDomain(Table[] tables, Question question, int k) {
            domainSize[k] = 0;
            for (int p = 0; p < question.size; p++) {
                Part part = question.parts[p];
                if (part.kind == HAS && part.carries(k)) {
                    Table table = tables[part.table];
                    for (int i = 0; i < table.size; i++) {
                        addToDomain(k, table.cell(i, part.placeOf[k]));
                    }
                    return;
                }
            }
        }

        private void addToDomain(int k, int v) {
            int[] values = domain[k];
            int size = domainSize[k];
            int spot = spotFor(k, v);
            if (size >= MOST_ROWS || (spot < size && values[spot] == v)) {
                return;
            }
            System.arraycopy(values, spot, values, spot + 1, size - spot);
            values[spot] = v;
            domainSize[k] = size + 1;
        }

        /** How many of name k's values are ordered ahead of v. */
        private int spotFor(int k, int v) {
            int low = 0;
            int high = domainSize[k];
            while (low < high) {
                int middle = (low + high) >>> 1;
                if (ahead(domain[k][middle], v)) {
                    low = middle + 1;
                } else {
                    high = middle;
                }
            }
            return low;
        }

        /** Which rows have each value of name k in column c, and each row's spot, NONE if its value has none. */
        private void gatherRowsWith(Table table, int c, int k, int pair) {
            long[] rows = rowsWith[pair];
            int[] spots = spotOf[pair];
            for (int spot = 0; spot < domainSize[k]; spot++) {
                rows[spot] = 0;
            }
            for (int i = 0; i < table.size; i++) {
                int v = table.cell(i, c);
                int spot = spotFor(k, v);
                boolean known = spot < domainSize[k] && domain[k][spot] == v;
                spots[i] = known ? spot : NONE;
                if (known) {
                    rows[spot] |= 1L << i;
                }
            }
        }

        /** Meets so many names of an order, one after another; how many meetings the last has, or TOO_MANY. */
        private int meetAlong(Question question, int[] turns, int howMany) {
            int seen = 0;
            slots[0][0] = 0;
            for (int i = 0; i < howMany; i++) {
                met[i + 1] = 0;
                for (int j = 0; j < met[i]; j++) {
                    long meeting = slots[i & 1][j];
                    agree(question, meeting, seen);
                    if (!extend(question, i + 1, meeting, seen | 1 << turns[i], turns[i])) {
                        return TOO_MANY;
                    }
                }
                seen |= 1 << turns[i];
            }
            return met[howMany];
        }

        /**
         * Gives a meeting's newest name the values in the HAS that has the fewest rows left; those that another HAS
         * lacks may have no spot. False if the meetings are too many.
         */
        private boolean extend(Question question, int i, long meeting, int seen, int name) {
            int p = narrowest(question, name);
            if (p == NONE) {
                return true;
            }
            int pair = pair(p, question.parts[p].placeOf[name]);
            long left = agreeing[p];
            for (int tries = 0; tries < MOST_ROWS && left != 0; tries++) {
                int spot = spotOf[pair][lowestPlace(left)];
                left &= left - 1;
                if (spot != NONE) {
                    left &= ~rowsWith[pair][spot];
                    spotNow[name] = spot;
                    valueNow[name] = domain[name][spot];
                    if (meets(question, seen, name)) {
                        if (met[i] >= MOST_MEETINGS) {
                            return false;
                        }
                        slots[i & 1][met[i]] = meeting | (long) spot << shift(name);
                        met[i]++;
                    }
                }
            }
            return true;
        }

        /** The HAS of this name with the fewest rows that agree, or NONE. */
        private int narrowest(Question question, int name) {
            int narrowest = NONE;
            int fewest = MOST_ROWS + 1;
            for (int p = 0; p < question.size; p++) {
                Part part = question.parts[p];
                if (part.kind == HAS && part.carries(name) && Long.bitCount(agreeing[p]) < fewest) {
                    narrowest = p;
                    fewest = Long.bitCount(agreeing[p]);
                }
            }
            return narrowest;
        }

        /** Is each part that has the newest name, and of which enough names are seen, true with the values now? */
        private boolean meets(Question question, int seen, int name) {
            for (int p = 0; p < question.size; p++) {
                Part part = question.parts[p];
                if (part.carries(name) && !holds(p, part, seen, name)) {
                    return false;
                }
            }
            return true;
        }

        private boolean holds(int p, Part part, int seen, int name) {
            boolean whole = (part.nameSet & ~seen) == 0;
            switch (part.kind) {
                case HAS:
                    return (agreeing[p] & rowsWith[pair(p, part.placeOf[name])][spotNow[name]]) != 0;
                case NOT:
                    return !whole || (agreeing[p] & rowsWith[pair(p, part.placeOf[name])][spotNow[name]]) == 0;
                case SAME:
                    return !whole || side(part, 0) == side(part, 1);
                default:
                    return !whole || ahead(side(part, 0), side(part, 1));
            }
        }

        /** The value on one side of a SAME or LESS. */
        private int side(Part part, int c) {
            int k = part.nameAt[c];
            return k == NONE ? part.toldAt[c] : valueNow[k];
        }

        /** Takes a meeting's values, and each HAS's and NOT's rows that agree with those of the names seen. */
        private void agree(Question question, long meeting, int seen) {
            for (int k = 0; k < question.names; k++) {
                spotNow[k] = spotIn(meeting, k);
                valueNow[k] = domain[k][spotNow[k]];
            }
            for (int p = 0; p < question.size; p++) {
                Part part = question.parts[p];
                long rows = fitting[p];
                for (int c = 0; part.isFact() && c < part.places; c++) {
                    int k = part.nameAt[c];
                    if (k != NONE && (seen >> k & 1) != 0) {
                        rows &= rowsWith[pair(p, c)][spotNow[k]];
                    }
                }
                agreeing[p] = rows;
            }
        }

        /** With values for all names one row of each HAS agrees. */
        private int witnessesNow(Question question) {
            int places = 0;
            int shift = 0;
            for (int p = 0; p < question.size; p++) {
                if (question.parts[p].kind == HAS) {
                    places |= lowestPlace(agreeing[p]) << shift;
                    shift += SPOT_BITS;
                }
            }
            return places;
        }

        /** Sorts the first ones of a slot, by steps that grow short. */
        private static void sort(long[] meetings, int howMany) {
            for (int step = MOST_MEETINGS / 2; step > 0; step /= 2) {
                for (int i = step; i < howMany; i++) {
                    long moved = meetings[i];
                    int j = i;
                    while (j >= step && meetings[j - step] > moved) {
                        meetings[j] = meetings[j - step];
                        j -= step;
                    }
                    meetings[j] = moved;
                }
            }
        }

        private static int pair(int p, int c) {
            return p * MOST_COLUMNS + c;
        }
    }
}
