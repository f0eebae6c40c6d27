/** The promises one by one: what they ask for, the edges that the document names, and what they refuse. */
public final class PromiseTests {
    private static final int NONE = -1;
    private static final int NO = Integer.MIN_VALUE;
    private static final int TOO_MANY = -2;

    private static int wrong = 0;
    private static int promise = 0;

    private static void due(String call, long got, long want) {
        if (got != want) {
            wrong++;
            System.out.println("promise " + promise + ": " + call + " answered " + got + ", due is " + want);
        }
    }

    private static void due(String call, boolean got, boolean want) {
        due(call, got ? 1 : 0, want ? 1 : 0);
    }

    /** Puts rows of one, two or three values into a new table. */
    private static void fill(JoinLoom x, int t, int columns, int[]... rows) {
        due("table(" + t + ", " + columns + ")", x.table(t, columns), true);
        for (int[] row : rows) {
            int a = row[0];
            int b = row.length > 1 ? row[1] : 0;
            int c = row.length > 2 ? row[2] : 0;
            due("put", x.put(t, a, b, c), 1);
        }
    }

    private static int[] r(int... row) {
        return row;
    }

    /** A table of one column that has the numbers from 0 on. */
    private static void count(JoinLoom x, int t, int howMany) {
        due("table(" + t + ", 1)", x.table(t, 1), true);
        for (int v = 0; v < howMany; v++) {
            due("put", x.put(t, v, 0, 0), 1);
        }
    }

    /** A HAS or NOT with names in all its places. */
    private static void fact(JoinLoom x, int kind, int t, int... names) {
        due("part is made", x.part(kind, t) >= 0, true);
        for (int i = 0; i < names.length; i++) {
            due("name(" + names[i] + ")", x.name(names[i]), i + 1);
        }
    }

    private static void answers(JoinLoom x, int[]... rows) {
        due("count(2)", x.count(2), rows.length);
        for (int i = 0; i < rows.length; i++) {
            for (int k = 0; k < rows[i].length; k++) {
                due("answer(" + i + ", " + k + ")", x.answer(i, k), rows[i][k]);
            }
        }
    }

    private static void met(JoinLoom x, int... due) {
        for (int i = 0; i < due.length; i++) {
            due("meetings(" + i + ")", x.meetings(i), due[i]);
        }
    }

    private static void ordered(JoinLoom x, int... names) {
        for (int i = 0; i < names.length; i++) {
            due("count(" + (10 + i) + ")", x.count(10 + i), names[i]);
        }
        due("count past THE ORDER", x.count(10 + names.length), NONE);
    }

    private static void aNewObject() {
        promise = 1;
        JoinLoom x = new JoinLoom();
        for (int t = -1; t < 9; t++) {
            due("rows(" + t + ")", x.rows(t), NONE);
            due("row", x.row(t, 0, 0), 0);
            due("put", x.put(t, 1, 2, 3), NONE);
            due("drop", x.drop(t, 1, 2, 3), false);
            due("rings", x.rings(t), NONE);
            due("ring", x.ring(t, 0, 0), 0);
            due("part", x.part(0, t), NONE);
        }
        due("name", x.name(0), NONE);
        due("value", x.value(0), NONE);
        due("compare", x.compare(2, 0, false, 0), NONE);
        due("order", x.order(0, 0), false);
        due("weave", x.weave(), NONE);
        due("answer", x.answer(0, 0), 0);
        due("meetings", x.meetings(0), NONE);
        due("witness", x.witness(0, 0), NONE);
        for (int what = -1; what < 6; what++) {
            due("sum", x.sum(0, what), 0);
        }
        due("group", x.group(0, 0, 0, 0), 0);
        due("keep", x.keep(), NONE);
        due("delta", x.delta(0), NONE);
        due("change", x.change(0, 0, 0), 0);
        due("bound", x.bound(), NONE);
        due("cover", x.cover(0), NONE);
        due("best", x.best(), NONE);
        long[] counts = {0, 0, NONE, NONE, 0, NONE, NONE, NONE, NONE, NONE, NONE, NONE};
        for (int what = 0; what < counts.length; what++) {
            due("count(" + what + ")", x.count(what), counts[what]);
        }
        due("NONE", JoinLoom.NONE, -1);
        due("NO", JoinLoom.NO, -2147483648L);
    }

    private static void tables() {
        promise = 2;
        JoinLoom x = new JoinLoom();
        due("table(-1, 1)", x.table(-1, 1), false);
        due("table(8, 1)", x.table(8, 1), false);
        due("table(0, 0)", x.table(0, 0), false);
        due("table(0, 4)", x.table(0, 4), false);
        due("table(MIN, MIN)", x.table(NO, NO), false);
        due("rows(0)", x.rows(0), NONE);
        fill(x, 7, 2, r(1, 2), r(3, 4));
        due("table(7, 0)", x.table(7, 0), false);
        due("rows(7) after a refusal", x.rows(7), 2);
        due("table(7, 3)", x.table(7, 3), true);
        due("rows(7) anew", x.rows(7), 0);
        due("put(7, ..)", x.put(7, 1, 2, 9), 1);
        due("row(7, 0, 2)", x.row(7, 0, 2), 9);
        fill(x, 1, 1, r(5));
        fill(x, 2, 1, r(6));
        x.ask(2);
        fact(x, 0, 1);
        due("table of a HAS without places", x.table(1, 1), false);
        fact(x, 1, 2, 0);
        due("table of a NOT", x.table(2, 2), false);
        x.compare(2, 0, false, 7);
        due("table that no part is of", x.table(7, 1), true);
        due("rows(1)", x.rows(1), 1);
        x.ask(1);
        due("table after another question", x.table(1, 2), true);
        due("rows(1) anew", x.rows(1), 0);
    }

    private static void puts() {
        promise = 3;
        JoinLoom x = new JoinLoom();
        x.table(0, 1);
        due("put", x.put(0, 4, 1, 1), 1);
        due("put with b and c that aren't looked at", x.put(0, 4, 2, 2), 0);
        x.table(1, 2);
        due("put", x.put(1, 4, 1, 1), 1);
        due("put with another b", x.put(1, 4, 2, 1), 1);
        due("put with c that isn't looked at", x.put(1, 4, 2, 2), 0);
        x.table(2, 3);
        due("put", x.put(2, 4, 1, 1), 1);
        due("put with another c", x.put(2, 4, 1, 2), 1);
        due("put again", x.put(2, 4, 1, 2), 0);
        due("put(-1)", x.put(-1, 0, 0, 0), NONE);
        due("put(8)", x.put(8, 0, 0, 0), NONE);
        due("put(3) of no table", x.put(3, 0, 0, 0), NONE);
        count(x, 3, 40);
        due("the 41st", x.put(3, 40, 0, 0), NONE);
        due("one of 40", x.put(3, 7, 0, 0), 0);
        due("rows(3)", x.rows(3), 40);
        due("drop", x.drop(3, 7, 0, 0), true);
        due("put after a drop", x.put(3, 41, 0, 0), 1);
        x.ask(1);
        fact(x, 0, 0, 0);
        due("put into a table that is asked of", x.put(0, 5, 0, 0), 1);
    }

    private static void drops() {
        promise = 4;
        JoinLoom x = new JoinLoom();
        fill(x, 0, 2, r(1, 1), r(1, 2), r(2, 1));
        due("drop of no row", x.drop(0, 2, 2, 0), false);
        due("drop with c that isn't looked at", x.drop(0, 1, 2, 99), true);
        due("drop again", x.drop(0, 1, 2, 0), false);
        due("rows", x.rows(0), 2);
        due("row(0, 0, 1)", x.row(0, 0, 1), 1);
        due("row(0, 1, 0)", x.row(0, 1, 0), 2);
        due("drop(1)", x.drop(1, 1, 1, 1), false);
        due("drop(-1)", x.drop(-1, 1, 1, 1), false);
        due("drop(8)", x.drop(8, 1, 1, 1), false);
        fill(x, 1, 1, r(NO), r(3));
        due("drop NO", x.drop(1, NO, 5, 5), true);
        due("drop 3", x.drop(1, 3, 0, 0), true);
        due("rows", x.rows(1), 0);
        due("drop of an empty table", x.drop(1, 3, 0, 0), false);
        count(x, 2, 40);
        due("drop the last of 40", x.drop(2, 39, 0, 0), true);
        due("drop the first of 39", x.drop(2, 0, 0, 0), true);
        due("row(2, 0, 0)", x.row(2, 0, 0), 1);
        due("row(2, 37, 0)", x.row(2, 37, 0), 38);
    }

    private static void rowCounts() {
        promise = 5;
        JoinLoom x = new JoinLoom();
        due("rows(0)", x.rows(0), NONE);
        x.table(0, 2);
        due("rows(0) of an empty table", x.rows(0), 0);
        x.put(0, 1, 1, 0);
        x.put(0, 1, 1, 1);
        due("rows(0)", x.rows(0), 1);
        due("rows(-1)", x.rows(-1), NONE);
        due("rows(8)", x.rows(8), NONE);
        due("rows(MAX)", x.rows(Integer.MAX_VALUE), NONE);
    }

    private static void rowOrder() {
        promise = 6;
        JoinLoom x = new JoinLoom();
        int[][] due = {r(NO + 1, 5, 5), r(-3, 0, 0), r(2, -1, 7), r(2, 4, -9), r(2, 4, 3), r(2, 4, NO), r(2, NO, 1),
            r(Integer.MAX_VALUE, 0, 0), r(NO, -4, 0), r(NO, NO, NO)};
        x.table(0, 3);
        for (int i = 0; i < due.length; i++) {
            int[] row = due[i * 7 % due.length];
            due("put", x.put(0, row[0], row[1], row[2]), 1);
        }
        for (int i = 0; i < due.length; i++) {
            for (int c = 0; c < 3; c++) {
                due("row(0, " + i + ", " + c + ")", x.row(0, i, c), due[i][c]);
            }
        }
        due("row(0, 10, 0)", x.row(0, 10, 0), 0);
        due("row(0, -1, 0)", x.row(0, -1, 0), 0);
        due("row(0, 0, -1)", x.row(0, 0, -1), 0);
        due("row(0, 0, 3)", x.row(0, 0, 3), 0);
        due("row(-1, 0, 0)", x.row(-1, 0, 0), 0);
        due("row(8, 0, 0)", x.row(8, 0, 0), 0);
        fill(x, 1, 2, r(3, 4));
        due("row(1, 0, 1)", x.row(1, 0, 1), 4);
        due("row of no such column", x.row(1, 0, 2), 0);
    }

    private static void asks() {
        promise = 7;
        JoinLoom x = new JoinLoom();
        due("ask(0)", x.ask(0), false);
        due("ask(7)", x.ask(7), false);
        due("ask(-1)", x.ask(-1), false);
        due("count(0)", x.count(0), 0);
        due("ask(6)", x.ask(6), true);
        ordered(x, 0, 1, 2, 3, 4, 5);
        x.table(0, 1);
        fact(x, 0, 0, 5);
        x.order(0, 5);
        due("ask(7)", x.ask(7), false);
        due("count(0) after a refusal", x.count(0), 6);
        due("count(1) after a refusal", x.count(1), 1);
        ordered(x, 5, 1, 2, 3, 4, 0);
        due("ask(2)", x.ask(2), true);
        due("count(1)", x.count(1), 0);
        ordered(x, 0, 1);
        for (int i = 0; i < 5; i++) {
            due("part of a new question", x.part(0, 0), i);
        }
        due("ask(1)", x.ask(1), true);
        due("part 0 again", x.part(0, 0), 0);
    }

    private static void parts() {
        promise = 8;
        JoinLoom x = new JoinLoom();
        x.table(0, 2);
        due("part without a question", x.part(0, 0), NONE);
        x.ask(2);
        due("part of no table", x.part(0, 1), NONE);
        due("part(0, -1)", x.part(0, -1), NONE);
        due("part(0, 8)", x.part(0, 8), NONE);
        due("part(2, 0)", x.part(2, 0), NONE);
        due("part(3, 0)", x.part(3, 0), NONE);
        due("part(-1, 0)", x.part(-1, 0), NONE);
        due("count(1)", x.count(1), 0);
        for (int i = 0; i < 5; i++) {
            due("HAS " + i, x.part(0, 0), i);
        }
        due("a sixth HAS", x.part(0, 0), NONE);
        due("count(1)", x.count(1), 5);
        for (int i = 5; i < 10; i++) {
            due("NOT " + i, x.part(1, 0), i);
        }
        due("an eleventh part", x.part(1, 0), NONE);
        x.ask(1);
        for (int i = 0; i < 9; i++) {
            due("NOT " + i, x.part(1, 0), i);
        }
        due("HAS after nine NOTs", x.part(0, 0), 9);
        due("an eleventh part", x.part(0, 0), NONE);
        due("count(1)", x.count(1), 10);
    }

    private static void names() {
        promise = 9;
        JoinLoom x = new JoinLoom();
        x.table(0, 3);
        x.table(1, 1);
        due("name without a question", x.name(0), NONE);
        x.ask(2);
        due("name without a part", x.name(0), NONE);
        x.part(0, 0);
        due("name(2)", x.name(2), NONE);
        due("name(-1)", x.name(-1), NONE);
        due("name(1)", x.name(1), 1);
        due("name(1) again", x.name(1), 2);
        due("name(0)", x.name(0), 3);
        due("a fourth place", x.name(0), NONE);
        x.part(1, 1);
        due("name in a NOT", x.name(1), 1);
        due("a second place", x.name(1), NONE);
        x.part(0, 0);
        x.compare(2, 0, true, 1);
        due("name behind a SAME", x.name(0), NONE);
    }

    private static void values() {
        promise = 10;
        JoinLoom x = new JoinLoom();
        fill(x, 0, 3, r(1, NO, 7), r(1, 2, 8), r(2, NO, 9));
        due("value without a question", x.value(0), NONE);
        x.ask(1);
        due("value without a part", x.value(0), NONE);
        x.part(0, 0);
        due("value(1)", x.value(1), 1);
        due("value(NO)", x.value(NO), 2);
        due("name(0)", x.name(0), 3);
        due("a fourth place", x.value(0), NONE);
        due("weave", x.weave(), 1);
        answers(x, r(7));
        x.compare(3, 0, false, 9);
        due("value behind a LESS", x.value(0), NONE);
        x.ask(1);
        x.part(1, 0);
        due("value in a NOT", x.value(-1), 1);
        due("value in a NOT", x.value(0), 2);
        due("value in a NOT", x.value(0), 3);
        due("value in a NOT", x.value(0), NONE);
    }

    private static void comparisons() {
        promise = 11;
        JoinLoom x = new JoinLoom();
        due("compare without a question", x.compare(2, 0, false, 0), NONE);
        fill(x, 0, 1, r(-1), r(5), r(NO));
        x.ask(2);
        due("compare(0, ..)", x.compare(0, 0, false, 0), NONE);
        due("compare(1, ..)", x.compare(1, 0, false, 0), NONE);
        due("compare(4, ..)", x.compare(4, 0, false, 0), NONE);
        due("compare(2, 2, ..)", x.compare(2, 2, false, 0), NONE);
        due("compare(2, -1, ..)", x.compare(2, -1, false, 0), NONE);
        due("compare(2, 0, true, 2)", x.compare(2, 0, true, 2), NONE);
        due("compare(2, 0, true, -1)", x.compare(2, 0, true, -1), NONE);
        fact(x, 0, 0, 0);
        fact(x, 0, 0, 1);
        due("LESS of names", x.compare(3, 0, true, 1), 2);
        due("weave", x.weave(), 3);
        answers(x, r(-1, 5), r(-1, NO), r(5, NO));
        due("SAME with a value", x.compare(2, 1, false, NO), 3);
        due("weave", x.weave(), 2);
        answers(x, r(-1, NO), r(5, NO));
        due("LESS with a value", x.compare(3, 0, false, 5), 4);
        due("weave", x.weave(), 1);
        due("SAME of one name", x.compare(2, 0, true, 0), 5);
        due("weave", x.weave(), 1);
        due("LESS of one name", x.compare(3, 0, true, 0), 6);
        due("weave", x.weave(), 0);
        due("SAME", x.compare(2, 0, true, 1), 7);
        due("SAME", x.compare(2, 0, true, 1), 8);
        due("SAME", x.compare(2, 0, true, 1), 9);
        due("an eleventh part", x.compare(2, 0, true, 1), NONE);
        x.ask(2);
        fact(x, 0, 0, 0);
        fact(x, 0, 0, 1);
        x.compare(2, 0, true, 1);
        due("weave with SAME", x.weave(), 3);
        answers(x, r(-1, -1), r(5, 5), r(NO, NO));
        x.compare(3, 0, false, NO);
        due("weave with LESS than NO", x.weave(), 2);
    }

    private static void orders() {
        promise = 12;
        JoinLoom x = new JoinLoom();
        due("order without a question", x.order(0, 0), false);
        x.ask(4);
        due("order(4, 0)", x.order(4, 0), false);
        due("order(-1, 0)", x.order(-1, 0), false);
        due("order(0, 4)", x.order(0, 4), false);
        due("order(0, -1)", x.order(0, -1), false);
        ordered(x, 0, 1, 2, 3);
        due("order(0, 2)", x.order(0, 2), true);
        ordered(x, 2, 1, 0, 3);
        due("order(1, 3)", x.order(1, 3), true);
        ordered(x, 2, 3, 0, 1);
        due("order(3, 1) as it is", x.order(3, 1), true);
        ordered(x, 2, 3, 0, 1);
        due("order(3, 2)", x.order(3, 2), true);
        ordered(x, 1, 3, 0, 2);
    }

    private static void weaving() {
        promise = 13;
        JoinLoom x = new JoinLoom();
        fill(x, 0, 2, r(1, 2), r(1, 3), r(2, 3), r(3, NO));
        fill(x, 1, 1, r(3));
        x.ask(2);
        due("weave without a part", x.weave(), NONE);
        fact(x, 0, 0, 0, 1);
        due("weave", x.weave(), 4);
        fact(x, 1, 1, 1);
        due("weave with a NOT", x.weave(), 2);
        answers(x, r(1, 2), r(3, NO));
        x.part(0, 0);
        x.value(1);
        due("weave with a part that lacks a place", x.weave(), NONE);
        answers(x, r(1, 2), r(3, NO));
        met(x, 3, 2, NONE);
        x.value(3);
        due("weave with a HAS of told values", x.weave(), 2);
        x.drop(0, 1, 3, 0);
        due("weave when its row is gone", x.weave(), 0);
        met(x, 0, 0, NONE);
        x.ask(2);
        fact(x, 0, 0, 0, 1);
        x.part(1, 1);
        x.value(4);
        due("weave with a NOT of a told value", x.weave(), 3);
        x.put(1, 4, 0, 0);
        due("weave when its row is there", x.weave(), 0);
        met(x, 0, 0, NONE);
        x.ask(3);
        fact(x, 0, 0, 0, 1);
        due("weave with a name in no HAS", x.weave(), NONE);
        fact(x, 1, 1, 2);
        due("weave with a name in a NOT alone", x.weave(), NONE);
        x.compare(2, 2, true, 0);
        due("weave with a name in a SAME alone", x.weave(), NONE);
        due("count(2)", x.count(2), 0);
    }

    private static void weavingWithOneNameTwice() {
        promise = 13;
        JoinLoom x = new JoinLoom();
        fill(x, 0, 2, r(1, 1), r(1, 2), r(2, 1), r(NO, NO));
        fill(x, 1, 3, r(7, 1, 1), r(7, 1, 2), r(8, 1, 2), r(9, 2, 2));
        fill(x, 2, 1, r(1), r(2), r(3));
        x.ask(1);
        fact(x, 0, 0, 0, 0);
        due("weave", x.weave(), 2);
        answers(x, r(1), r(NO));
        x.ask(2);
        fact(x, 0, 1, 0, 1, 1);
        due("weave", x.weave(), 2);
        answers(x, r(7, 1), r(9, 2));
        met(x, 2, 2);
        x.ask(1);
        fact(x, 0, 2, 0);
        fact(x, 1, 0, 0, 0);
        due("weave with a NOT", x.weave(), 2);
        answers(x, r(2), r(3));
        x.ask(1);
        fact(x, 0, 1, 0, 0, 0);
        due("weave with one name in three places", x.weave(), 0);
        x.table(3, 2);
        x.ask(2);
        fact(x, 0, 2, 0);
        fact(x, 0, 3, 0, 1);
        due("weave of an empty table", x.weave(), 0);
        met(x, 0, 0);
        x.order(0, 1);
        due("weave of an empty table", x.weave(), 0);
        met(x, 0, 0);
        x.ask(1);
        fact(x, 0, 2, 0);
        x.part(0, 3);
        x.value(1);
        x.value(2);
        due("weave with told values of an empty table", x.weave(), 0);
    }

    private static void weavingTooMany() {
        promise = 13;
        JoinLoom x = new JoinLoom();
        count(x, 0, 25);
        count(x, 1, 20);
        count(x, 2, 1);
        x.ask(2);
        fact(x, 0, 0, 0);
        fact(x, 0, 1, 1);
        due("weave with 500 meetings", x.weave(), 500);
        met(x, 25, 500);
        due("answer(499, 0)", x.answer(499, 0), 24);
        due("answer(499, 1)", x.answer(499, 1), 19);
        due("answer(500, 1)", x.answer(500, 1), 0);
        x.put(2, 7, 0, 0);
        x.ask(3);
        fact(x, 0, 0, 0);
        fact(x, 0, 1, 1);
        fact(x, 0, 2, 2);
        due("weave with 1000 meetings at the last name", x.weave(), TOO_MANY);
        due("count(2) as before", x.count(2), 500);
        due("answer(499, 0) as before", x.answer(499, 0), 24);
        met(x, 25, 500, NONE);
        x.put(1, 20, 0, 0);
        x.put(1, 21, 0, 0);
        x.compare(2, 0, true, 2);
        due("weave with 550 meetings on the way", x.weave(), TOO_MANY);
        x.order(1, 2);
        due("weave in another order", x.weave(), 44);
        met(x, 25, 2, 44);
        count(x, 3, 40);
        x.ask(6);
        for (int k = 0; k < 5; k++) {
            fact(x, 0, 3, k);
        }
        due("weave without the sixth name", x.weave(), NONE);
        x.ask(5);
        for (int k = 0; k < 5; k++) {
            fact(x, 0, 3, k);
        }
        for (int k = 0; k < 4; k++) {
            due("SAME", x.compare(2, k, true, k + 1), 5 + k);
        }
        due("weave of ten parts but one", x.weave(), 40);
        due("the tenth", x.compare(3, 4, false, 7), 9);
        due("weave of ten parts", x.weave(), 7);
        met(x, 40, 40, 40, 40, 7, NONE);
    }

    /** Rows of two tables that meet in 22 times 22, 4 times 4 and 1 times 1 ways. */
    private static void weavingJustTooMany() {
        promise = 13;
        JoinLoom x = new JoinLoom();
        x.table(0, 2);
        x.table(1, 2);
        for (int i = 0; i < 26; i++) {
            due("put", x.put(0, i, i < 22 ? 7 : 8, 0), 1);
            due("put", x.put(1, i < 22 ? 7 : 8, i, 0), 1);
        }
        due("put", x.put(0, 50, 9, 0), 1);
        x.ask(3);
        fact(x, 0, 0, 0, 1);
        fact(x, 0, 1, 1, 2);
        due("weave with 500 meetings", x.weave(), 500);
        met(x, 27, 26, 500);
        due("put", x.put(1, 9, 50, 0), 1);
        due("weave with 501 meetings", x.weave(), TOO_MANY);
        due("count(2) as before", x.count(2), 500);
        x.order(0, 2);
        due("weave with 501 meetings from the other end", x.weave(), TOO_MANY);
        promise = 24;
        due("best with 501 meetings", x.best(), TOO_MANY);
        x.drop(0, 50, 9, 0);
        due("best with 500 meetings", x.best(), 2 + 26 + 500);
        ordered(x, 1, 0, 2);
    }

    private static void answerOrder() {
        promise = 14;
        JoinLoom x = new JoinLoom();
        fill(x, 0, 2, r(NO, 1), r(5, NO), r(5, -2), r(-8, 4), r(0, 4));
        x.ask(2);
        fact(x, 0, 0, 1, 0);
        due("weave", x.weave(), 5);
        answers(x, r(-2, 5), r(1, NO), r(4, -8), r(4, 0), r(NO, 5));
        x.order(0, 1);
        due("weave", x.weave(), 5);
        answers(x, r(-2, 5), r(1, NO), r(4, -8), r(4, 0), r(NO, 5));
        due("answer(5, 0)", x.answer(5, 0), 0);
        due("answer(-1, 0)", x.answer(-1, 0), 0);
        due("answer(0, 2)", x.answer(0, 2), 0);
        due("answer(0, -1)", x.answer(0, -1), 0);
        x.put(0, 9, 9, 0);
        x.ask(1);
        answers(x, r(-2, 5), r(1, NO), r(4, -8), r(4, 0), r(NO, 5));
    }

    private static void meetingCounts() {
        promise = 15;
        JoinLoom x = new JoinLoom();
        fill(x, 0, 2, r(1, 1), r(1, 2), r(2, 1), r(3, 9), r(4, 1));
        fill(x, 1, 2, r(1, 5), r(1, 6), r(2, 7), r(8, 8));
        x.ask(3);
        fact(x, 0, 0, 0, 1);
        fact(x, 0, 1, 1, 2);
        due("weave", x.weave(), 7);
        met(x, 4, 4, 7, NONE);
        due("meetings(-1)", x.meetings(-1), NONE);
        x.order(0, 2);
        met(x, 4, 4, 7, NONE);
        due("weave", x.weave(), 7);
        met(x, 4, 3, 7);
        x.order(0, 1);
        due("weave", x.weave(), 7);
        met(x, 2, 3, 7);
        x.part(0, 1);
        x.value(9);
        x.name(2);
        due("weave with a told value that isn't there", x.weave(), 0);
        met(x, 2, 0, 0);
        x.ask(2);
        met(x, 2, 0, 0, NONE);
        fact(x, 0, 0, 0, 1);
        fact(x, 1, 0, 1, 0);
        x.compare(3, 0, true, 1);
        due("weave with a NOT and LESS", x.weave(), 1);
        met(x, 4, 1, NONE);
    }

    private static void witnesses() {
        promise = 16;
        JoinLoom x = new JoinLoom();
        fill(x, 0, 2, r(1, 1), r(1, 2), r(2, 1), r(NO, 2));
        fill(x, 1, 1, r(7), r(8), r(9));
        x.ask(2);
        fact(x, 1, 1, 1);
        fact(x, 0, 0, 1, 0);
        x.compare(2, 0, true, 0);
        x.part(0, 1);
        x.value(9);
        due("weave", x.weave(), 4);
        answers(x, r(1, 1), r(1, 2), r(2, 1), r(2, NO));
        int[] due = {0, 2, 1, 3};
        for (int i = 0; i < 4; i++) {
            due("witness of a NOT", x.witness(i, 0), NONE);
            due("witness(" + i + ", 1)", x.witness(i, 1), due[i]);
            due("witness of a SAME", x.witness(i, 2), NONE);
            due("witness of told values", x.witness(i, 3), 2);
        }
        due("witness(0, 4)", x.witness(0, 4), NONE);
        due("witness(0, -1)", x.witness(0, -1), NONE);
        due("witness(4, 1)", x.witness(4, 1), NONE);
        due("witness(-1, 1)", x.witness(-1, 1), NONE);
        x.put(0, 0, 0, 0);
        x.drop(1, 7, 0, 0);
        due("witness as it was when woven", x.witness(1, 1), 2);
        due("witness as it was when woven", x.witness(1, 3), 2);
        due("weave", x.weave(), 5);
        due("witness anew", x.witness(0, 1), 0);
        due("witness anew", x.witness(4, 1), 4);
        due("witness anew", x.witness(4, 3), 1);
        x.ask(3);
        due("witness after another question", x.witness(4, 1), 4);
    }

    private static void sums() {
        promise = 17;
        JoinLoom x = new JoinLoom();
        int max = Integer.MAX_VALUE;
        fill(x, 0, 2, r(max, -5), r(max - 1, -5), r(NO, -7), r(3, NO), r(3, -5));
        x.ask(2);
        fact(x, 0, 0, 0, 1);
        due("weave", x.weave(), 5);
        long[] first = {2L * max - 1 + 6, 4, max, 3, 4};
        long[] second = {-22, 4, -5, -7, 3};
        for (int what = 0; what < 5; what++) {
            due("sum(0, " + what + ")", x.sum(0, what), first[what]);
            due("sum(1, " + what + ")", x.sum(1, what), second[what]);
            due("sum(2, " + what + ")", x.sum(2, what), 0);
            due("sum(-1, " + what + ")", x.sum(-1, what), 0);
        }
        due("sum(0, 5)", x.sum(0, 5), 0);
        due("sum(0, -1)", x.sum(0, -1), 0);
        x.compare(2, 0, false, NO);
        due("weave", x.weave(), 1);
        long[] none = {0, 0, NO, NO, 1};
        for (int what = 0; what < 5; what++) {
            due("sum(0, " + what + ") of no number", x.sum(0, what), none[what]);
        }
        x.compare(2, 0, false, 0);
        due("weave", x.weave(), 0);
        long[] empty = {0, 0, NO, NO, 0};
        for (int what = 0; what < 5; what++) {
            due("sum(1, " + what + ") of no answer", x.sum(1, what), empty[what]);
        }
        x.ask(6);
        due("sum(2, 2) of a name that what was woven has not", x.sum(2, 2), 0);
        count(x, 1, 40);
        count(x, 2, 12);
        x.ask(2);
        fact(x, 0, 1, 0);
        fact(x, 0, 2, 1);
        due("weave", x.weave(), 480);
        due("sum(0, 4)", x.sum(0, 4), 40);
        due("sum(1, 4)", x.sum(1, 4), 12);
        due("sum(0, 0)", x.sum(0, 0), 12 * 780);
    }

    private static void groups() {
        promise = 18;
        JoinLoom x = new JoinLoom();
        int max = Integer.MAX_VALUE;
        fill(x, 0, 2, r(1, max), r(1, max - 2), r(1, NO), r(2, 5), r(NO, 6), r(NO, NO));
        x.ask(2);
        fact(x, 0, 0, 0, 1);
        due("weave", x.weave(), 6);
        due("group(0, 1, 0, 0)", x.group(0, 1, 0, 0), 3);
        due("group(0, 1, 1, 1)", x.group(0, 1, 1, 1), 2L * max - 2);
        due("group(0, 1, 1, 0)", x.group(0, 1, 1, 0), 3);
        due("group(0, NO, 0, 0)", x.group(0, NO, 0, 0), 2);
        due("group(0, NO, 1, 1)", x.group(0, NO, 1, 1), 6);
        due("group(0, NO, 1, 0)", x.group(0, NO, 1, 0), 0);
        due("group(1, NO, 0, 1)", x.group(1, NO, 0, 1), 2);
        due("group(1, NO, 1, 0)", x.group(1, NO, 1, 0), 1);
        due("group(0, 3, 0, 0)", x.group(0, 3, 0, 0), 0);
        due("group(2, 0, 0, 0)", x.group(2, 0, 0, 0), 0);
        due("group(-1, 0, 0, 0)", x.group(-1, 0, 0, 0), 0);
        due("group(0, 1, 1, 2)", x.group(0, 1, 1, 2), 0);
        due("group(0, 1, 1, -1)", x.group(0, 1, 1, -1), 0);
        due("group(0, 1, 2, 0)", x.group(0, 1, 2, 0), 0);
        due("group(0, 1, -1, 0)", x.group(0, 1, -1, 0), 0);
        x.drop(0, 1, NO, 0);
        due("group of what was woven", x.group(0, 1, 0, 0), 3);
    }

    private static void keeps() {
        promise = 19;
        JoinLoom x = new JoinLoom();
        fill(x, 0, 1, r(1), r(2));
        x.ask(1);
        fact(x, 0, 0, 0);
        due("keep before a weave", x.keep(), NONE);
        due("count(3)", x.count(3), NONE);
        due("weave", x.weave(), 2);
        due("count(3)", x.count(3), NONE);
        due("keep", x.keep(), 2);
        due("count(3)", x.count(3), 2);
        x.drop(0, 1, 0, 0);
        due("weave", x.weave(), 1);
        due("count(3) till the next keep", x.count(3), 2);
        due("delta(1)", x.delta(1), 1);
        due("keep in place of what was", x.keep(), 1);
        due("delta(1)", x.delta(1), 0);
        x.drop(0, 2, 0, 0);
        due("weave", x.weave(), 0);
        due("keep nothing", x.keep(), 0);
        due("count(3)", x.count(3), 0);
        due("delta(0)", x.delta(0), 0);
    }

    private static void deltas() {
        promise = 20;
        JoinLoom x = new JoinLoom();
        fill(x, 0, 2, r(1, 1), r(2, 2), r(3, 3), r(NO, 1));
        x.ask(2);
        fact(x, 0, 0, 0, 1);
        due("weave", x.weave(), 4);
        due("delta before a keep", x.delta(0), NONE);
        due("keep", x.keep(), 4);
        due("delta(0)", x.delta(0), 0);
        due("delta(1)", x.delta(1), 0);
        x.drop(0, 2, 2, 0);
        x.drop(0, NO, 1, 0);
        x.put(0, 0, 9, 0);
        x.put(0, 1, 2, 0);
        x.put(0, NO, NO, 0);
        due("delta till a weave", x.delta(0), 0);
        due("weave", x.weave(), 5);
        due("delta(0)", x.delta(0), 3);
        due("delta(1)", x.delta(1), 2);
        due("delta(2)", x.delta(2), NONE);
        due("delta(-1)", x.delta(-1), NONE);
        x.ask(1);
        due("delta after another question", x.delta(0), 3);
        fact(x, 0, 0, 0, 0);
        due("weave of one name", x.weave(), 3);
        due("delta of other names", x.delta(0), NONE);
        due("delta of other names", x.delta(1), NONE);
        due("change of other names", x.change(0, 0, 0), 0);
        x.keep();
        due("delta(1)", x.delta(1), 0);
    }

    private static void changes() {
        promise = 21;
        JoinLoom x = new JoinLoom();
        fill(x, 0, 2, r(1, 1), r(2, 2), r(3, 3), r(NO, 1));
        x.ask(2);
        fact(x, 0, 0, 0, 1);
        due("weave", x.weave(), 4);
        due("change before a keep", x.change(0, 0, 0), 0);
        x.keep();
        x.drop(0, 2, 2, 0);
        x.drop(0, NO, 1, 0);
        x.put(0, 0, 9, 0);
        x.put(0, 1, 2, 0);
        x.put(0, NO, NO, 0);
        x.order(0, 1);
        due("weave", x.weave(), 5);
        int[][] came = {r(0, 9), r(1, 2), r(NO, NO)};
        int[][] went = {r(2, 2), r(NO, 1)};
        for (int k = 0; k < 2; k++) {
            for (int i = 0; i < came.length; i++) {
                due("change(0, " + i + ", " + k + ")", x.change(0, i, k), came[i][k]);
            }
            for (int i = 0; i < went.length; i++) {
                due("change(1, " + i + ", " + k + ")", x.change(1, i, k), went[i][k]);
            }
        }
        due("change(0, 3, 0)", x.change(0, 3, 0), 0);
        due("change(0, -1, 0)", x.change(0, -1, 0), 0);
        due("change(1, 2, 0)", x.change(1, 2, 0), 0);
        due("change(0, 0, 2)", x.change(0, 0, 2), 0);
        due("change(0, 1, -1)", x.change(0, 1, -1), 0);
        due("change(2, 0, 1)", x.change(2, 0, 1), 0);
        due("change(-1, 0, 1)", x.change(-1, 0, 1), 0);
        count(x, 1, 40);
        count(x, 2, 12);
        x.ask(2);
        fact(x, 0, 1, 0);
        fact(x, 0, 2, 1);
        due("weave of 480", x.weave(), 480);
        due("delta(0) of 480", x.delta(0), 477);
        due("delta(1) of 480", x.delta(1), 1);
        due("change(0, 476, 0)", x.change(0, 476, 0), 39);
        due("change(0, 476, 1)", x.change(0, 476, 1), 11);
        due("change(1, 0, 0)", x.change(1, 0, 0), NO);
    }

    private static void bounds() {
        promise = 22;
        JoinLoom x = new JoinLoom();
        due("bound without a question", x.bound(), NONE);
        count(x, 0, 40);
        fill(x, 1, 2, r(1, 2), r(2, 3), r(3, 1));
        fill(x, 2, 3, r(1, 2, 3), r(2, 3, 1));
        x.ask(5);
        due("bound without a part", x.bound(), NONE);
        for (int k = 0; k < 5; k++) {
            fact(x, 0, 0, k);
        }
        due("bound of 40 to the tenth", x.bound(), 10485760000000000L);
        x.ask(3);
        fact(x, 0, 1, 0, 1);
        fact(x, 0, 1, 1, 2);
        due("bound of a path", x.bound(), 81);
        fact(x, 0, 1, 2, 0);
        due("bound of a ring", x.bound(), 27);
        x.put(1, 9, 9, 0);
        due("bound when a row came", x.bound(), 64);
        x.drop(1, 9, 9, 0);
        fact(x, 0, 2, 0, 1, 2);
        due("bound with a wide table", x.bound(), 4);
        x.part(0, 1);
        x.value(1);
        due("bound with a part that lacks a place", x.bound(), NONE);
        x.value(2);
        due("bound with a HAS of told values", x.bound(), 4);
        x.drop(2, 1, 2, 3);
        x.drop(2, 2, 3, 1);
        due("bound of an empty table", x.bound(), 0);
        x.ask(1);
        fact(x, 0, 1, 0, 0);
        due("bound with one name twice", x.bound(), 9);
        fact(x, 1, 2, 0, 0, 0);
        due("bound with a NOT of an empty table", x.bound(), 9);
        count(x, 3, 2);
        fact(x, 0, 3, 0);
        due("bound with another HAS", x.bound(), 4);
    }

    private static void covers(JoinLoom x, int... due) {
        for (int p = 0; p < due.length; p++) {
            due("cover(" + p + ")", x.cover(p), due[p]);
        }
        due("cover past the parts", x.cover(due.length), NONE);
        due("cover(-1)", x.cover(-1), NONE);
    }

    private static void coverShares() {
        promise = 23;
        JoinLoom x = new JoinLoom();
        due("cover without a question", x.cover(0), NONE);
        fill(x, 0, 2, r(1, 2), r(2, 3), r(3, 1));
        fill(x, 1, 1, r(5));
        fill(x, 2, 1);
        x.ask(3);
        due("cover without a part", x.cover(0), NONE);
        fact(x, 0, 0, 0, 1);
        due("cover of what doesn't stand", x.cover(0), NONE);
        fact(x, 0, 0, 1, 2);
        covers(x, 2, 2);
        fact(x, 0, 0, 2, 0);
        covers(x, 1, 1, 1);
        fact(x, 1, 0, 2, 0);
        x.part(0, 1);
        x.value(5);
        x.compare(2, 0, true, 1);
        covers(x, 1, 1, 1, NONE, NONE, NONE);
        x.ask(1);
        fact(x, 0, 0, 0, 0);
        fact(x, 0, 0, 0, 0);
        covers(x, 0, 2);
        fact(x, 0, 1, 0);
        covers(x, 0, 0, 2);
        fact(x, 0, 1, 0);
        covers(x, 0, 0, 0, 2);
        fact(x, 0, 2, 0);
        covers(x, 0, 0, 0, 0, 2);
        x.drop(1, 5, 0, 0);
        covers(x, 0, 0, 0, 0, 2);
        x.put(2, 5, 0, 0);
        covers(x, 0, 0, 0, 1, 1);
    }

    private static void bests() {
        promise = 24;
        JoinLoom x = new JoinLoom();
        due("best without a question", x.best(), NONE);
        fill(x, 0, 2, r(1, 1), r(2, 1), r(3, 1), r(4, 2));
        fill(x, 1, 2, r(1, 5), r(1, 6), r(1, 7));
        x.ask(3);
        fact(x, 0, 0, 0, 1);
        due("best of what doesn't stand", x.best(), NONE);
        fact(x, 0, 1, 1, 2);
        due("best", x.best(), 13);
        ordered(x, 1, 0, 2);
        due("best doesn't weave", x.count(2), NONE);
        due("weave", x.weave(), 9);
        met(x, 1, 3, 9);
        x.ask(3);
        fact(x, 0, 0, 2, 1);
        fact(x, 0, 1, 1, 0);
        due("best again", x.best(), 13);
        ordered(x, 1, 0, 2);
        due("what was woven stays", x.answer(8, 0), 3);
        count(x, 2, 10);
        x.ask(4);
        for (int k = 0; k < 4; k++) {
            fact(x, 0, 2, k);
        }
        x.order(0, 3);
        due("best of 10000", x.best(), TOO_MANY);
        ordered(x, 3, 1, 2, 0);
        x.compare(2, 3, true, 0);
        due("best of 1000", x.best(), TOO_MANY);
        x.compare(2, 2, true, 1);
        due("best of four", x.best(), 10 + 10 + 100 + 100);
        ordered(x, 0, 3, 1, 2);
        x.compare(3, 1, false, 2);
        due("best of four", x.best(), 2 + 2 + 20 + 20);
        ordered(x, 1, 2, 0, 3);
        x.ask(5);
        for (int k = 0; k < 5; k++) {
            fact(x, 0, 2, k);
        }
        due("best of five names", x.best(), NONE);
        x.ask(1);
        fact(x, 0, 2, 0);
        due("best of one name", x.best(), 10);
        ordered(x, 0);
        x.part(0, 2);
        x.value(77);
        x.ask(2);
        fact(x, 0, 2, 1);
        fact(x, 0, 2, 0);
        x.part(0, 2);
        x.value(77);
        x.order(0, 1);
        due("best of no meetings", x.best(), 0);
        ordered(x, 0, 1);
    }

    private static void bestAtTheEdge() {
        promise = 24;
        JoinLoom x = new JoinLoom();
        count(x, 0, 25);
        count(x, 1, 20);
        x.ask(2);
        fact(x, 0, 0, 0);
        fact(x, 0, 1, 1);
        due("best with 500 meetings", x.best(), 520);
        ordered(x, 1, 0);
        x.put(1, 99, 0, 0);
        due("best with 525 meetings", x.best(), TOO_MANY);
        ordered(x, 1, 0);
    }

    private static void rings(JoinLoom x, int t, int[]... due) {
        due("rings(" + t + ")", x.rings(t), due.length);
        for (int i = 0; i < due.length; i++) {
            for (int k = 0; k < 3; k++) {
                due("ring(" + t + ", " + i + ", " + k + ")", x.ring(t, i, k), due[i][k]);
            }
        }
        due("ring past the last", x.ring(t, due.length, 0), 0);
    }

    private static void ringsAndRing() {
        promise = 25;
        JoinLoom x = new JoinLoom();
        due("rings(0)", x.rings(0), NONE);
        due("rings(-1)", x.rings(-1), NONE);
        due("rings(8)", x.rings(8), NONE);
        count(x, 0, 3);
        due("rings of one column", x.rings(0), NONE);
        due("ring of one column", x.ring(0, 0, 0), 0);
        x.table(1, 2);
        due("rings of an empty table", x.rings(1), 0);
        fill(x, 1, 2, r(1, 1), r(1, 2), r(2, 2), r(2, 1));
        rings(x, 1);
        x.put(1, 2, NO, 0);
        x.put(1, NO, 1, 0);
        rings(x, 1, r(1, 2, NO));
        x.put(1, NO, -5, 0);
        x.put(1, -5, 2, 0);
        rings(x, 1, r(-5, 2, NO), r(1, 2, NO));
        x.put(1, 2, -5, 0);
        x.put(1, -5, NO, 0);
        x.put(1, NO, 2, 0);
        rings(x, 1, r(-5, 2, NO), r(-5, NO, 2), r(1, 2, NO));
        fill(x, 2, 3, r(1, 2, 7), r(1, 2, 8), r(2, 3, 0), r(2, 3, 1), r(3, 1, 4), r(3, 1, 5));
        promise = 26;
        rings(x, 2, r(1, 2, 3));
        due("ring(2, 0, 3)", x.ring(2, 0, 3), 0);
        due("ring(2, 0, -1)", x.ring(2, 0, -1), 0);
        due("ring(2, -1, 0)", x.ring(2, -1, 0), 0);
        due("ring(2, MAX, 0)", x.ring(2, Integer.MAX_VALUE, 0), 0);
        due("ring(-1, 0, 0)", x.ring(-1, 0, 0), 0);
        due("ring(8, 0, 0)", x.ring(8, 0, 0), 0);
        due("ring(7, 0, 0)", x.ring(7, 0, 0), 0);
        x.drop(2, 3, 1, 4);
        rings(x, 2, r(1, 2, 3));
        x.drop(2, 3, 1, 5);
        rings(x, 2);
    }

    private static void counts() {
        promise = 27;
        JoinLoom x = new JoinLoom();
        fill(x, 0, 1, r(1), r(2));
        x.ask(2);
        due("count(0)", x.count(0), 2);
        due("count(1)", x.count(1), 0);
        due("count(4)", x.count(4), 0);
        fact(x, 0, 0, 0);
        due("count(4)", x.count(4), 0);
        fact(x, 1, 0, 1);
        due("count(4) with a NOT alone", x.count(4), 0);
        fact(x, 0, 0, 1);
        due("count(4)", x.count(4), 1);
        due("count(1)", x.count(1), 3);
        x.part(1, 0);
        due("count(4) with a NOT that lacks a place", x.count(4), 0);
        x.value(3);
        due("count(4)", x.count(4), 1);
        due("count(2)", x.count(2), NONE);
        due("weave", x.weave(), 0);
        due("count(2)", x.count(2), 0);
        due("count(3)", x.count(3), NONE);
        x.keep();
        due("count(3)", x.count(3), 0);
        for (int what : new int[] {-1, 5, 6, 7, 8, 9, 12, 13, 16, NO, Integer.MAX_VALUE}) {
            due("count(" + what + ")", x.count(what), NONE);
        }
        ordered(x, 0, 1);
    }

    public static void main(String[] args) {
        aNewObject();
        tables();
        puts();
        drops();
        rowCounts();
        rowOrder();
        asks();
        parts();
        names();
        values();
        comparisons();
        orders();
        weaving();
        weavingWithOneNameTwice();
        weavingTooMany();
        weavingJustTooMany();
        answerOrder();
        meetingCounts();
        witnesses();
        sums();
        groups();
        keeps();
        deltas();
        changes();
        bounds();
        coverShares();
        bests();
        bestAtTheEdge();
        ringsAndRing();
        counts();
        System.out.println(wrong == 0 ? "all answers are as due" : wrong + " answers are not as due");
        if (wrong != 0) {
            System.exit(1);
        }
    }
}
