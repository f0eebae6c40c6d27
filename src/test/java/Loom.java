import java.util.function.LongSupplier;

/** A JoinLoom whose calls are counted, since nothing is promised of those behind the 512th. */
final class Loom {
    static final int NONE = -1;
    static final int NO = Integer.MIN_VALUE;
    static final int TOO_MANY = -2;
    static final int HAS = 0;
    static final int NOT = 1;
    static final int SAME = 2;
    static final int LESS = 3;
    private static final int MOST_CALLS = 512;

    private final JoinLoom loom = new JoinLoom();
    private int calls = 0;

    private JoinLoom used() {
        calls++;
        if (calls > MOST_CALLS) {
            throw new IllegalStateException("a test makes more calls than are promised");
        }
        return loom;
    }

    int callsLeft() {
        return MOST_CALLS - calls;
    }

    boolean table(int t, int columns) {
        return used().table(t, columns);
    }

    int put(int t, int a, int b, int c) {
        return used().put(t, a, b, c);
    }

    boolean drop(int t, int a, int b, int c) {
        return used().drop(t, a, b, c);
    }

    int rows(int t) {
        return used().rows(t);
    }

    int row(int t, int i, int c) {
        return used().row(t, i, c);
    }

    boolean ask(int n) {
        return used().ask(n);
    }

    int part(int kind, int t) {
        return used().part(kind, t);
    }

    int name(int k) {
        return used().name(k);
    }

    int value(int v) {
        return used().value(v);
    }

    int compare(int kind, int k, boolean byName, int v) {
        return used().compare(kind, k, byName, v);
    }

    boolean order(int i, int k) {
        return used().order(i, k);
    }

    int weave() {
        return used().weave();
    }

    int answer(int i, int k) {
        return used().answer(i, k);
    }

    int meetings(int i) {
        return used().meetings(i);
    }

    int witness(int i, int p) {
        return used().witness(i, p);
    }

    long sum(int k, int what) {
        return used().sum(k, what);
    }

    long group(int k, int v, int how, int j) {
        return used().group(k, v, how, j);
    }

    int keep() {
        return used().keep();
    }

    int delta(int what) {
        return used().delta(what);
    }

    int change(int what, int i, int k) {
        return used().change(what, i, k);
    }

    long bound() {
        return used().bound();
    }

    int cover(int p) {
        return used().cover(p);
    }

    int best() {
        return used().best();
    }

    int rings(int t) {
        return used().rings(t);
    }

    int ring(int t, int i, int k) {
        return used().ring(t, i, k);
    }

    int count(int what) {
        return used().count(what);
    }

    static int[] r(int... row) {
        return row;
    }

    private static void must(boolean made, String what) {
        if (!made) {
            throw new IllegalStateException(what + " was refused");
        }
    }

    private static int at(int[] row, int c) {
        return c < row.length ? row[c] : 0;
    }

    /** A new table with these rows. */
    Loom with(int t, int columns, int[]... rows) {
        must(table(t, columns), "table " + t);
        return more(t, rows);
    }

    /** More rows for a table. */
    Loom more(int t, int[]... rows) {
        for (int[] row : rows) {
            must(put(t, at(row, 0), at(row, 1), at(row, 2)) == 1, "a row of table " + t);
        }
        return this;
    }

    Loom less(int t, int[]... rows) {
        for (int[] row : rows) {
            must(drop(t, at(row, 0), at(row, 1), at(row, 2)), "the drop of a row of table " + t);
        }
        return this;
    }

    /** A new table of one column with the numbers from 0 on. */
    Loom numbers(int t, int howMany) {
        must(table(t, 1), "table " + t);
        for (int v = 0; v < howMany; v++) {
            must(put(t, v, 0, 0) == 1, "a number of table " + t);
        }
        return this;
    }

    Loom asked(int n) {
        must(ask(n), "a question");
        return this;
    }

    private Loom fact(int kind, int t, int... names) {
        must(part(kind, t) != NONE, "a part");
        for (int name : names) {
            must(name(name) != NONE, "a name");
        }
        return this;
    }

    Loom has(int t, int... names) {
        return fact(HAS, t, names);
    }

    Loom not(int t, int... names) {
        return fact(NOT, t, names);
    }

    /** Told values in the last part's next places. */
    Loom told(int... values) {
        for (int v : values) {
            must(value(v) != NONE, "a told value");
        }
        return this;
    }

    Loom same(int k, int j) {
        must(compare(SAME, k, true, j) != NONE, "a SAME");
        return this;
    }

    Loom sameAs(int k, int v) {
        must(compare(SAME, k, false, v) != NONE, "a SAME");
        return this;
    }

    Loom less(int k, int j) {
        must(compare(LESS, k, true, j) != NONE, "a LESS");
        return this;
    }

    Loom lessThan(int k, int v) {
        must(compare(LESS, k, false, v) != NONE, "a LESS");
        return this;
    }

    Loom turned(int i, int k) {
        must(order(i, k), "an order");
        return this;
    }

    Loom woven(int due) {
        int got = weave();
        if (got != due) {
            throw new IllegalStateException("woven were " + got + " where " + due + " are due");
        }
        return this;
    }

    Loom kept(int due) {
        int got = keep();
        if (got != due) {
            throw new IllegalStateException("kept were " + got + " where " + due + " are due");
        }
        return this;
    }

    /** All that a small loom tells when it is asked without a change, as far as a run's calls allow. */
    String state() {
        StringBuilder text = new StringBuilder();
        for (int t = 0; t < 8; t++) {
            int rows = rows(t);
            text.append("table ").append(t).append(':').append(rows);
            for (int i = 0; i < Math.min(rows, 8); i++) {
                text.append(' ').append(row(t, i, 0)).append('/').append(row(t, i, 1)).append('/').append(row(t, i, 2));
            }
            text.append('\n');
        }
        tell(text, "count", 5, this::count);
        tell(text, "order", 6, i -> count(10 + i));
        tell(text, "meetings", 4, this::meetings);
        tell(text, "cover", 4, this::cover);
        tell(text, "delta", 2, this::delta);
        tell(text, "sum", 5, what -> sum(0, what));
        tell(text, "bound", 1, i -> bound());
        tell(text, "rings", 2, this::rings);
        for (int i = 0; i < 4; i++) {
            int at = i;
            tell(text, "answer", 2, k -> answer(at, k));
            tell(text, "witness", 2, p -> witness(at, p));
            tell(text, "came", 1, k -> change(0, at, k));
            tell(text, "went", 1, k -> change(1, at, k));
        }
        return text.toString();
    }

    private interface Asked {
        long of(int i);
    }

    private static void tell(StringBuilder text, String what, int howMany, Asked asked) {
        text.append(what).append(':');
        for (int i = 0; i < howMany; i++) {
            text.append(' ').append(asked.of(i));
        }
        text.append('\n');
    }

    /** What comes of the loom when the calls go on: places for the last part, an order, a weave, and one kept. */
    String future() {
        StringBuilder text = new StringBuilder();
        LongSupplier[] steps = {() -> name(0), () -> name(0), () -> name(0), this::weave, () -> meetings(0),
            () -> meetings(1), () -> answer(0, 0), () -> answer(1, 0), this::best, () -> count(10), () -> part(HAS, 0),
            () -> value(1), () -> value(2), () -> compare(LESS, 0, false, 2), this::weave, () -> answer(0, 0),
            () -> delta(0), () -> delta(1), this::keep, () -> delta(0), () -> delta(1), () -> put(0, 1, 1, 1),
            () -> put(1, 1, 1, 1), () -> ask(2) ? 1 : 0, () -> part(HAS, 0)};
        for (LongSupplier step : steps) {
            text.append(step.getAsLong()).append(' ');
        }
        return text.toString();
    }
}
