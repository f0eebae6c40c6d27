/** Long runs of calls, the same ones each time, on JoinLoom and PlainLoom side by side. */
public final class PlainRuns {
    private static final int RUNS = 1200;
    private static final int CALLS = 512;

    private long state;
    private final int style;
    private final int run;
    private final JoinLoom loom = new JoinLoom();
    private final PlainLoom plain = new PlainLoom();
    private int wrong = 0;
    private int calls = 0;

    static long woven = 0;
    static long tooMany = 0;
    static long ordered = 0;

    private PlainRuns(int run) {
        this.run = run;
        this.state = run * 7919L + 17;
        this.style = run % 6;
    }

    private int pick(int bound) {
        state = state * 6364136223846793005L + 1442695040888963407L;
        return (int) ((state >>> 33) % bound);
    }

    private boolean rarely(int oneIn) {
        return pick(oneIn) == 0;
    }

    private void due(String call, long got, long want) {
        calls++;
        if (got != want) {
            wrong++;
            if (wrong <= 5) {
                System.out.println("run " + run + ", call " + calls + ": " + call + " answered " + got
                        + ", due is " + want);
            }
        }
    }

    private static long bit(boolean b) {
        return b ? 1 : 0;
    }

    /** A number that is mostly below a bound and sometimes far off. */
    private int near(int bound) {
        if (rarely(25)) {
            int[] far = {-1, bound, bound + 1, Integer.MAX_VALUE, Integer.MIN_VALUE, -7, 63, 64};
            return far[pick(far.length)];
        }
        return pick(bound);
    }

    private int valueToPut() {
        if (rarely(10)) {
            int[] odd = {Integer.MIN_VALUE, Integer.MIN_VALUE, Integer.MAX_VALUE, Integer.MIN_VALUE + 1, -1};
            return odd[pick(odd.length)];
        }
        int[] spread = {3, 5, 7, 23, 40, 4};
        return pick(spread[style]);
    }

    private int tables() {
        int[] howMany = {2, 3, 4, 2, 2, 8};
        return howMany[style];
    }

    private void makeTable() {
        int t = near(tables());
        int columns = rarely(20) ? near(4) : 1 + pick(3);
        due("table", bit(loom.table(t, columns)), bit(plain.table(t, columns)));
    }

    private void putRow() {
        int t = near(tables());
        int a = valueToPut();
        int b = valueToPut();
        int c = valueToPut();
        due("put " + t, loom.put(t, a, b, c), plain.put(t, a, b, c));
    }

    private void dropRow() {
        int t = near(tables());
        if (plain.rows(t) > 0 && pick(3) > 0) {
            int i = pick(plain.rows(t));
            int a = plain.row(t, i, 0);
            int b = plain.row(t, i, 1);
            int c = plain.row(t, i, 2);
            due("drop " + t, bit(loom.drop(t, a, b, c)), bit(plain.drop(t, a, b, c)));
            return;
        }
        int a = valueToPut();
        int b = valueToPut();
        int c = valueToPut();
        due("drop " + t, bit(loom.drop(t, a, b, c)), bit(plain.drop(t, a, b, c)));
    }

    private void placeName() {
        int k = near(Math.max(1, plain.count(0)));
        due("name " + k, loom.name(k), plain.name(k));
    }

    private void placeValue() {
        int v = valueToPut();
        due("value", loom.value(v), plain.value(v));
    }

    private void addFact(int kind) {
        int t = near(tables());
        due("part " + kind + " " + t, loom.part(kind, t), plain.part(kind, t));
        for (int c = 0; c < 3; c++) {
            if (rarely(30)) {
                return;
            }
            if (pick(7) == 0) {
                placeValue();
            } else {
                placeName();
            }
        }
    }

    private void addComparison() {
        int kind = rarely(20) ? near(5) : 2 + pick(2);
        boolean byName = pick(3) > 0;
        int k = near(Math.max(1, plain.count(0)));
        int v = byName ? near(Math.max(1, plain.count(0))) : valueToPut();
        due("compare", loom.compare(kind, k, byName, v), plain.compare(kind, k, byName, v));
    }

    private void askAnew() {
        int[] most = {6, 4, 4, 3, 3, 6};
        int n = rarely(20) ? near(8) : 1 + pick(most[style]);
        due("ask " + n, bit(loom.ask(n)), bit(plain.ask(n)));
        int facts = 1 + pick(4);
        for (int i = 0; i < facts; i++) {
            addFact(0);
        }
        for (int i = 0; i < 6 && plain.count(4) == 0; i++) {
            addFact(0);
        }
        for (int i = pick(3); i > 0; i--) {
            addComparison();
        }
        if (pick(3) == 0) {
            addFact(1);
        }
        if (pick(3) > 0) {
            weave();
        }
        if (pick(3) == 0) {
            findBest();
        }
    }

    private void turn() {
        int i = near(Math.max(1, plain.count(0)));
        int k = near(Math.max(1, plain.count(0)));
        due("order", bit(loom.order(i, k)), bit(plain.order(i, k)));
        due("count(10)", loom.count(10), plain.count(10));
    }

    private void weave() {
        int want = plain.weave();
        due("weave", loom.weave(), want);
        woven += want > 0 ? 1 : 0;
        tooMany += want == -2 ? 1 : 0;
        for (int i = 0; i < 3; i++) {
            due("meetings " + i, loom.meetings(i), plain.meetings(i));
        }
    }

    private void findBest() {
        int want = plain.best();
        due("best", loom.best(), want);
        ordered += want > 0 ? 1 : 0;
        for (int i = 10; i < 14; i++) {
            due("count " + i, loom.count(i), plain.count(i));
        }
    }

    private void lookAtWoven() {
        int size = Math.max(1, plain.count(2));
        int i = near(size);
        int k = near(6);
        int p = near(10);
        int what = near(5);
        int v = plain.answer(pick(size), k);
        due("answer", loom.answer(i, k), plain.answer(i, k));
        due("witness", loom.witness(i, p), plain.witness(i, p));
        due("meetings", loom.meetings(k), plain.meetings(k));
        due("sum", loom.sum(k, what), plain.sum(k, what));
        int how = near(2);
        int j = near(6);
        due("group", loom.group(k, v, how, j), plain.group(k, v, how, j));
    }

    private void lookAtChanges() {
        int what = near(2);
        int howMany = plain.delta(what);
        due("delta", loom.delta(what), howMany);
        int i = near(Math.max(1, howMany));
        int k = near(6);
        due("change", loom.change(what, i, k), plain.change(what, i, k));
    }

    private void lookAtTables() {
        int t = near(tables());
        due("rows", loom.rows(t), plain.rows(t));
        int i = near(Math.max(1, plain.rows(t)));
        int c = near(3);
        due("row", loom.row(t, i, c), plain.row(t, i, c));
        int rings = plain.rings(t);
        due("rings", loom.rings(t), rings);
        i = near(Math.max(1, rings));
        int k = near(3);
        due("ring", loom.ring(t, i, k), plain.ring(t, i, k));
    }

    private void lookAtQuestion() {
        int p = near(10);
        due("bound", loom.bound(), plain.bound());
        due("cover", loom.cover(p), plain.cover(p));
        int what = near(16);
        due("count", loom.count(what), plain.count(what));
    }

    private int go() {
        for (int t = 0; t < tables(); t++) {
            int columns = style == 4 ? 1 + pick(2) : 1 + pick(3);
            due("table", bit(loom.table(t, columns)), bit(plain.table(t, columns)));
        }
        int puts = style == 3 || style == 4 ? 140 : 60;
        for (int i = 0; i < puts; i++) {
            putRow();
        }
        while (calls < CALLS - 30) {
            step();
        }
        return wrong;
    }

    private void step() {
        switch (pick(24)) {
            case 0: case 1: makeTable(); break;
            case 2: case 3: case 4: putRow(); break;
            case 5: case 6: dropRow(); break;
            case 7: case 8: case 9: askAnew(); break;
            case 10: addFact(near(2)); break;
            case 11: addComparison(); break;
            case 12: turn(); break;
            case 13: case 14: case 15: weave(); break;
            case 16: findBest(); break;
            case 17: due("keep", loom.keep(), plain.keep()); break;
            case 18: case 19: lookAtWoven(); break;
            case 20: lookAtChanges(); break;
            case 21: lookAtTables(); break;
            case 22: lookAtQuestion(); break;
            default: placeName(); placeValue(); break;
        }
    }

    public static void main(String[] args) {
        int wrong = 0;
        for (int run = 0; run < RUNS; run++) {
            wrong += new PlainRuns(run).go();
        }
        System.out.println(RUNS + " runs: " + woven + " times woven, " + tooMany + " times too many, " + ordered
                + " times ordered");
        boolean thin = woven < 1000 || tooMany < 100 || ordered < 300;
        System.out.println(wrong == 0 && !thin ? "all answers are as due" : wrong + " answers are not as due");
        if (wrong != 0 || thin) {
            System.exit(1);
        }
    }
}
