/** The sentences of promises 25 to 27: rings, ring, count. */
final class RingSentences extends Sentences {
    private RingSentences() {
    }

    static void all() {
        rings();
        ring();
        count();
        countNone();
    }

    private static void rings() {
        String at = "Promise 25";
        test(at, "How many RINGS TABLE t has;", () -> {
            Loom x = new Loom().with(0, 2);
            due("rings of an empty table", x.rings(0), 0);
            x.more(0, r(1, 2), r(2, 3));
            due("rings of a path", x.rings(0), 0);
            x.more(0, r(3, 1));
            due("rings", x.rings(0), 1);
            x.more(0, r(3, 4), r(4, 2));
            due("rings", x.rings(0), 2);
            x.less(0, r(2, 3));
            due("rings when a row has gone", x.rings(0), 0);
        });
        test(at, "How many RINGS TABLE t has;", () -> {
            Loom x = new Loom().with(0, 2);
            for (int a = 0; a < 6; a++) {
                for (int b = 0; b < 6; b++) {
                    x.more(0, r(a, b));
                }
            }
            due("rings of all pairs of six", x.rings(0), 40);
            due("the last ring's a", x.ring(0, 39, 0), 3);
            due("the last ring's b", x.ring(0, 39, 1), 5);
            due("the last ring's c", x.ring(0, 39, 2), 4);
            due("behind the last", x.ring(0, 40, 0), 0);
        });
        test(at, "How many RINGS TABLE t has;", () -> {
            Loom x = new Loom().with(0, 2);
            for (int a = 0; a < 7; a++) {
                for (int b = 0; b < 7; b++) {
                    if (a != b && !(a == 0 && b == 1) && !(a == 1 && b == 2)) {
                        x.more(0, r(a, b));
                    }
                }
            }
            due("rows", x.rows(0), 40);
            due("more rings than rows", x.rings(0), 61);
            int[] first = {0, 2, 1};
            int[] last = {4, 6, 5};
            for (int k = 0; k < 3; k++) {
                due("ring(0, 0, " + k + ")", x.ring(0, 0, k), first[k]);
                due("ring(0, 60, " + k + ")", x.ring(0, 60, k), last[k]);
                due("ring(0, 61, " + k + ")", x.ring(0, 61, k), 0);
            }
        });
        test(at, "NONE: there is no such TABLE of two or three COLUMNS.", () -> {
            Loom x = new Loom().numbers(0, 3).with(1, 2).with(7, 3);
            for (int t : new int[] {-1, 0, 2, 6, 8, NO, MAX}) {
                due("rings(" + t + ")", x.rings(t), NONE);
            }
            due("rings of two columns", x.rings(1), 0);
            due("rings of three columns", x.rings(7), 0);
            x.with(1, 1);
            due("rings of a table that is another", x.rings(1), NONE);
        });
    }

    private static void ring() {
        String at = "Promise 26";
        test(at, "VALUE k (0 a, 1 b, 2 c) of RING i, by a, then b, then c in their order;", () -> {
            Loom x = new Loom().with(0, 2, r(2, 9), r(9, 8), r(8, 2), r(1, 5), r(5, 7), r(7, 1), r(1, 4), r(4, 6),
                    r(6, 1));
            ringed(x, 0, r(1, 4, 6), r(1, 5, 7), r(2, 9, 8));
            x.more(0, r(5, 6), r(5, NO), r(NO, 1));
            ringed(x, 0, r(1, 4, 6), r(1, 5, 6), r(1, 5, 7), r(1, 5, NO), r(2, 9, 8));
        });
        test(at, "VALUE k (0 a, 1 b, 2 c) of RING i, by a, then b, then c in their order;", () -> {
            Loom x = new Loom().with(0, 3, r(1, 3, 0), r(2, 3, 0), r(3, 4, 0), r(3, 4, 1), r(4, 1, 0), r(4, 2, 0),
                    r(4, 2, 5));
            ringed(x, 0, r(1, 3, 4), r(2, 3, 4));
            x.with(1, 3, r(1, 2, 0), r(2, 4, 0), r(3, 4, 0), r(4, 1, 0));
            ringed(x, 1, r(1, 2, 4));
            x.more(1, r(1, 3, 0));
            ringed(x, 1, r(1, 2, 4), r(1, 3, 4));
        });
        test(at, "0: there is none such.", () -> {
            Loom x = new Loom().numbers(0, 3).with(1, 2, r(1, 2), r(2, 3), r(3, 1)).with(2, 3);
            for (int i : new int[] {-1, 1, 2, 40, NO, MAX}) {
                for (int k = 0; k < 3; k++) {
                    due("ring(1, " + i + ", " + k + ")", x.ring(1, i, k), 0);
                }
            }
            for (int k : new int[] {-1, 3, 4, NO, MAX}) {
                due("ring(1, 0, " + k + ")", x.ring(1, 0, k), 0);
            }
            for (int t : new int[] {-1, 0, 2, 3, 8, NO, MAX}) {
                due("ring(" + t + ", 0, 0)", x.ring(t, 0, 0), 0);
            }
            due("ring(1, 0, 2)", x.ring(1, 0, 2), 3);
            x.less(1, r(2, 3));
            due("ring when a row has gone", x.ring(1, 0, 2), 0);
        });
    }

    private static void count() {
        String at = "Promise 27";
        test(at, "0 NAMES,", () -> {
            Loom x = new Loom();
            due("count(0)", x.count(0), 0);
            x.asked(6);
            due("count(0)", x.count(0), 6);
            x.asked(1);
            due("count(0)", x.count(0), 1);
        });
        test(at, "1 PARTS,", () -> {
            Loom x = new Loom().numbers(0, 1);
            due("count(1)", x.count(1), 0);
            x.asked(1);
            due("count(1)", x.count(1), 0);
            x.has(0);
            due("count(1) of a part without places", x.count(1), 1);
            x.not(0, 0).same(0, 0).lessThan(0, 3);
            due("count(1)", x.count(1), 4);
            due("count(1)", RefusedSentences.tenParts().count(1), 10);
            x.asked(1);
            due("count(1)", x.count(1), 0);
        });
        test(at, "2 ANSWERS that were woven (NONE: nothing),", () -> {
            Loom x = new Loom().numbers(0, 3).asked(1).has(0, 0);
            due("count(2)", x.count(2), NONE);
            x.woven(3);
            due("count(2)", x.count(2), 3);
            x.lessThan(0, 0);
            due("count(2)", x.count(2), 3);
            x.woven(0);
            due("count(2)", x.count(2), 0);
            due("count(2) of 500", new Loom().numbers(0, 25).numbers(1, 20).asked(2).has(0, 0).has(1, 1).woven(500)
                    .count(2), 500);
        });
        test(at, "3 kept ones (NONE),", () -> {
            Loom x = new Loom().numbers(0, 3).asked(1).has(0, 0);
            due("count(3)", x.count(3), NONE);
            x.woven(3);
            due("count(3)", x.count(3), NONE);
            x.kept(3).lessThan(0, 0).woven(0);
            due("count(3)", x.count(3), 3);
            x.kept(0);
            due("count(3)", x.count(3), 0);
        });
        test(at, "4 whether the QUESTION STANDS (1, 0);", () -> {
            Loom x = new Loom().with(0, 2, r(1, 2));
            due("count(4) without a question", x.count(4), 0);
            x.asked(2);
            due("count(4) without a part", x.count(4), 0);
            x.has(0, 0);
            due("count(4) of a part that lacks a place", x.count(4), 0);
            x.name(1);
            due("count(4)", x.count(4), 1);
            x.not(0);
            due("count(4) of a NOT that lacks places", x.count(4), 0);
        });
        test(at, "10 + i the i-th NAME of THE ORDER.", () -> {
            Loom x = new Loom();
            due("count(10) without a question", x.count(10), NONE);
            x.asked(6).turned(0, 3).turned(5, 0);
            int[] names = {3, 1, 2, 5, 4, 0};
            for (int i = 0; i < 6; i++) {
                due("count(" + (10 + i) + ")", x.count(10 + i), names[i]);
            }
            due("count(16)", x.count(16), NONE);
            x.asked(2);
            due("count(11)", x.count(11), 1);
            due("count(12)", x.count(12), NONE);
        });
    }

    private static void countNone() {
        String at = "Promise 27";
        test(at, "NONE for others.", () -> {
            Loom x = RefusedSentences.kept();
            for (int what : new int[] {-1, 5, 6, 7, 8, 9, 12, 13, 15, 16, 17, 41, 42, NO, NO + 9, NO + 10, MAX}) {
                due("count(" + what + ")", x.count(what), NONE);
            }
            x.asked(6);
            for (int what : new int[] {-1, 5, 6, 7, 8, 9, 16, 17, 41, 42, NO, NO + 9, NO + 10, MAX}) {
                due("count(" + what + ")", x.count(what), NONE);
            }
        });
    }
}
