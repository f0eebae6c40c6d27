/** The sentences of promises 1 to 6: a new object, table, put, drop, rows, row. */
final class TableSentences extends Sentences {
    private TableSentences() {
    }

    static void all() {
        newObject();
        table();
        put();
        drop();
        rows();
        row();
    }

    private static void newObject() {
        String at = "Promise 1";
        test(at, "No TABLES,", () -> {
            Loom x = new Loom();
            for (int t = 0; t < 8; t++) {
                due("rows", x.rows(t), NONE);
                due("row", x.row(t, 0, 0), 0);
                due("put", x.put(t, 0, 0, 0), NONE);
                due("drop", x.drop(t, 0, 0, 0), false);
                due("rings", x.rings(t), NONE);
                due("ring", x.ring(t, 0, 0), 0);
            }
            x.asked(1);
            for (int t = 0; t < 8; t++) {
                due("part", x.part(HAS, t), NONE);
                due("part", x.part(NOT, t), NONE);
            }
        });
        test(at, "no QUESTION.", () -> {
            Loom x = new Loom().with(0, 1, r(1));
            due("part", x.part(HAS, 0), NONE);
            due("name", x.name(0), NONE);
            due("value", x.value(0), NONE);
            due("compare", x.compare(SAME, 0, false, 0), NONE);
            due("order", x.order(0, 0), false);
            due("weave", x.weave(), NONE);
            due("keep", x.keep(), NONE);
            due("delta", x.delta(0), NONE);
            due("bound", x.bound(), NONE);
            due("cover", x.cover(0), NONE);
            due("best", x.best(), NONE);
            long[] counts = {0, 0, NONE, NONE, 0, NONE};
            for (int what = 0; what < counts.length; what++) {
                due("count(" + what + ")", x.count(what), counts[what]);
            }
            due("count(10)", x.count(10), NONE);
        });
    }

    private static void table() {
        String at = "Promise 2";
        test(at, "TABLE t has so many COLUMNS and no ROWS", () -> {
            Loom x = new Loom();
            due("table", x.table(3, 2), true);
            due("rows", x.rows(3), 0);
            due("put", x.put(3, 1, 2, 3), 1);
            due("row", x.row(3, 0, 1), 2);
            due("row", x.row(3, 0, 2), 0);
        });
        test(at, "(in place of one before): true;", () -> {
            Loom x = new Loom().with(0, 2, r(1, 2), r(3, 4)).with(1, 2, r(1, 2), r(3, 4)).with(2, 2, r(5, 6));
            due("more columns", x.table(0, 3), true);
            due("rows", x.rows(0), 0);
            due("put", x.put(0, 1, 2, 3), 1);
            tableHas(x, 0, 3, r(1, 2, 3));
            due("fewer columns", x.table(1, 1), true);
            due("put", x.put(1, 8, 2, 3), 1);
            due("put again", x.put(1, 8, 3, 4), 0);
            due("as many columns", x.table(2, 2), true);
            due("rows", x.rows(2), 0);
            due("row", x.row(2, 0, 0), 0);
        });
        test(at, "false: no such t,", () -> {
            for (int t : new int[] {-1, 8, 16, NO, MAX}) {
                refused("table(" + t + ", 1)", RefusedSentences::kept, x -> bit(x.table(t, 1)), 0);
            }
            Loom x = new Loom();
            due("table(0, 1)", x.table(0, 1), true);
            due("table(7, 1)", x.table(7, 1), true);
        });
        test(at, "COLUMNS,", () -> {
            for (int columns : new int[] {-1, 0, 4, 5, NO, MAX}) {
                refused("table(3, " + columns + ")", RefusedSentences::kept, x -> bit(x.table(3, columns)), 0);
                refused("table(2, " + columns + ")", RefusedSentences::kept, x -> bit(x.table(2, columns)), 0);
            }
        });
        test(at, "or a PART of the QUESTION is of it.", () -> {
            refused("table of a HAS", RefusedSentences::kept, x -> bit(x.table(0, 2)), 0);
            refused("table of a NOT", RefusedSentences::kept, x -> bit(x.table(1, 2)), 0);
            refused("table of a HAS without places", RefusedSentences::open, x -> bit(x.table(0, 1)), 0);
            Loom x = new Loom().numbers(0, 2).numbers(1, 2).asked(1).has(1, 0).woven(2);
            due("table of no part", x.table(0, 3), true);
            due("table of a part", x.table(1, 3), false);
            x.asked(1);
            due("table of a part of the question before", x.table(1, 3), true);
            answers(x, r(0), r(1));
        });
    }

    private static void put() {
        String at = "Promise 3";
        test(at, "A ROW comes", () -> {
            Loom x = new Loom().with(0, 3);
            due("put", x.put(0, 5, 6, 7), 1);
            due("put in front", x.put(0, 4, 9, 9), 1);
            due("put behind", x.put(0, 6, 0, 0), 1);
            due("put between", x.put(0, 5, 7, 0), 1);
            tableHas(x, 0, 3, r(4, 9, 9), r(5, 6, 7), r(5, 7, 0), r(6, 0, 0));
        });
        test(at, "(b, c that it has no COLUMNS for are not looked at): 1;", () -> {
            Loom x = new Loom().with(0, 1).with(1, 2).asked(1).has(0, 0);
            due("put", x.put(0, 5, 6, 7), 1);
            due("put with another b", x.put(0, 5, 5, 7), 0);
            due("put with another c", x.put(0, 5, 6, 8), 0);
            due("put with another a", x.put(0, 4, NO, MAX), 1);
            due("put", x.put(1, 5, 6, 7), 1);
            due("put with another c", x.put(1, 5, 6, NO), 0);
            due("put with another b", x.put(1, 5, 5, 9), 1);
            tableHas(x, 0, 3, r(4, 0, 0), r(5, 0, 0));
            tableHas(x, 1, 3, r(5, 5, 0), r(5, 6, 0));
        });
        test(at, "0: it is there;", () -> {
            refused("put of the first row", RefusedSentences::kept, x -> x.put(2, 1, 2, 0), 0);
            refused("put of the last row", RefusedSentences::kept, x -> x.put(2, 3, 1, 0), 0);
            Loom x = new Loom().numbers(0, 40);
            for (int v = 0; v < 40; v++) {
                due("put of " + v + " where 40 are there", x.put(0, v, 0, 0), 0);
            }
        });
        test(at, "NONE: no such TABLE,", () -> {
            for (int t : new int[] {-1, 3, 7, 8, NO, MAX}) {
                refused("put into table " + t, RefusedSentences::kept, x -> x.put(t, 1, 2, 3), NONE);
            }
        });
        test(at, "40 are there.", () -> {
            for (int v : new int[] {-1, 40, 100, NO, MAX}) {
                refused("put of " + v, RefusedSentences::full, x -> x.put(2, v, v, v), NONE);
            }
            Loom x = new Loom().numbers(0, 39);
            due("the 40th", x.put(0, 39, 0, 0), 1);
            due("the 41st", x.put(0, 40, 0, 0), NONE);
            x.less(0, r(0));
            due("the 40th again", x.put(0, 40, 0, 0), 1);
            due("the 41st again", x.put(0, 0, 0, 0), NONE);
            due("the first", x.row(0, 0, 0), 1);
            due("the last", x.row(0, 39, 0), 40);
        });
    }

    private static void drop() {
        String at = "Promise 4";
        test(at, "A ROW goes: true;", () -> {
            Loom x = new Loom().with(0, 3, r(1, 2, 3), r(1, 2, 4), r(2, 2, 3), r(NO, 1, 1));
            due("the second", x.drop(0, 1, 2, 4), true);
            tableHas(x, 0, 3, r(1, 2, 3), r(2, 2, 3), r(NO, 1, 1));
            due("the last", x.drop(0, NO, 1, 1), true);
            due("the first", x.drop(0, 1, 2, 3), true);
            tableHas(x, 0, 3, r(2, 2, 3));
            due("the only one", x.drop(0, 2, 2, 3), true);
            tableHas(x, 0, 3);
            due("behind the last", x.row(0, 0, 0), 0);
            due("put again", x.put(0, 2, 2, 3), 1);
            x.with(1, 1, r(5)).with(2, 2, r(5, 6)).asked(1).has(1, 0);
            due("a row of a table that is asked of", x.drop(1, 5, 7, 8), true);
            due("a row of two", x.drop(2, 5, 6, 8), true);
        });
        test(at, "A ROW goes: true;", () -> {
            Loom x = new Loom().numbers(0, 40);
            for (int v = 0; v < 40; v++) {
                int goes = v * 7 % 40;
                due("drop of " + goes, x.drop(0, goes, 0, 0), true);
                due("drop of " + goes + " again", x.drop(0, goes, 0, 0), false);
                due("rows", x.rows(0), 39 - v);
            }
        });
        test(at, "false: there is none such.", () -> {
            refused("drop with another a", RefusedSentences::kept, x -> bit(x.drop(2, 4, 2, 0)), 0);
            refused("drop with another b", RefusedSentences::kept, x -> bit(x.drop(2, 1, 3, 0)), 0);
            refused("drop of NO", RefusedSentences::kept, x -> bit(x.drop(2, NO, NO, NO)), 0);
            refused("drop behind the last", RefusedSentences::kept, x -> bit(x.drop(2, MAX, 0, 0)), 0);
            refused("drop of a full table", RefusedSentences::full, x -> bit(x.drop(2, 40, 0, 0)), 0);
            for (int t : new int[] {-1, 3, 7, 8, NO, MAX}) {
                refused("drop of table " + t, RefusedSentences::kept, x -> bit(x.drop(t, 1, 2, 3)), 0);
            }
            Loom x = new Loom().with(0, 3, r(1, 2, 3), r(4, 5, 6)).with(1, 1);
            due("drop with another c", x.drop(0, 1, 2, 4), false);
            due("drop of an empty table", x.drop(1, 0, 0, 0), false);
            due("drop", x.drop(0, 4, 5, 6), true);
            due("drop again", x.drop(0, 4, 5, 6), false);
            tableHas(x, 0, 3, r(1, 2, 3));
        });
    }

    private static void rows() {
        String at = "Promise 5";
        test(at, "How many ROWS TABLE t has;", () -> {
            Loom x = new Loom().with(0, 2).with(7, 1);
            due("no rows", x.rows(0), 0);
            for (int v = 0; v < 40; v++) {
                x.more(0, r(v, v));
                due("rows", x.rows(0), v + 1);
            }
            x.put(0, 99, 99, 99);
            due("rows of a full table", x.rows(0), 40);
            due("rows of another", x.rows(7), 0);
        });
        test(at, "NONE: there is none such.", () -> {
            Loom x = new Loom().with(0, 1).with(7, 1);
            for (int t : new int[] {-1, 1, 6, 8, NO, MAX}) {
                due("rows(" + t + ")", x.rows(t), NONE);
            }
        });
    }

    private static void row() {
        String at = "Promise 6";
        test(at, "The VALUE of COLUMN c (0 to 2) in the i-th ROW in their order;", () -> {
            Loom x = new Loom().with(0, 3, r(6, 5, 4), r(3, 2, 1), r(NO, NO + 1, MAX));
            tableHas(x, 0, 3, r(3, 2, 1), r(6, 5, 4), r(NO, NO + 1, MAX));
            x.less(0, r(6, 5, 4));
            due("the next one moves up", x.row(0, 1, 2), MAX);
        });
        test(at, "0: there is none such.", () -> {
            Loom x = new Loom().with(0, 3, r(6, 5, 4), r(3, 2, 1), r(7, 8, 9)).less(0, r(7, 8, 9));
            x.with(1, 2, r(6, 5)).with(2, 1, r(6));
            for (int i : new int[] {-1, 2, 3, 40, NO, MAX}) {
                for (int c = 0; c < 3; c++) {
                    due("row(0, " + i + ", " + c + ")", x.row(0, i, c), 0);
                }
            }
            for (int c : new int[] {-1, 3, 4, NO, MAX}) {
                due("row(0, 0, " + c + ")", x.row(0, 0, c), 0);
                due("row(0, 1, " + c + ")", x.row(0, 1, c), 0);
            }
            due("a third column of two", x.row(1, 0, 2), 0);
            due("a second column of one", x.row(2, 0, 1), 0);
            for (int t : new int[] {-1, 3, 8, NO, MAX}) {
                due("row(" + t + ", 0, 0)", x.row(t, 0, 0), 0);
            }
            due("row of an empty table", x.with(3, 1).row(3, 0, 0), 0);
            due("row of a table made anew", x.with(0, 3).row(0, 0, 0), 0);
            due("row of a full table", x.numbers(4, 40).row(4, 40, 0), 0);
        });
    }
}
