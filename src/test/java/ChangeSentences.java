/** The sentences of promises 19 to 21: keep, delta, change. */
final class ChangeSentences extends Sentences {
    private ChangeSentences() {
    }

    static void all() {
        keep();
        delta();
        change();
    }

    private static Loom pairs() {
        return new Loom().with(0, 2, r(1, 5), r(2, 6), r(3, 7), r(NO, 8)).asked(2).has(0, 0, 1);
    }

    private static void keep() {
        String at = "Promise 19";
        test(at, "What was woven last is kept", () -> {
            Loom x = pairs().woven(4).less(0, r(2, 6)).kept(4);
            due("delta(1) till another weave", x.delta(1), 0);
            x.woven(3);
            due("delta(1)", x.delta(1), 1);
            due("change", x.change(1, 0, 0), 2);
            due("count(3)", x.count(3), 4);
            x.asked(3);
            due("count(3) behind another question", x.count(3), 4);
            due("delta(1) behind another question", x.delta(1), 1);
        });
        test(at, "(in place of what was): how many ANSWERS;", () -> {
            Loom x = pairs().woven(4).kept(4).less(0, r(2, 6), r(3, 7)).woven(2);
            due("delta(1)", x.delta(1), 2);
            due("keep", x.keep(), 2);
            due("delta(1)", x.delta(1), 0);
            due("count(3)", x.count(3), 2);
            x.more(0, r(2, 6), r(3, 7)).woven(4);
            due("delta(0)", x.delta(0), 2);
            x.kept(4).asked(1).has(0, 0, 0).woven(0);
            due("keep of no answers", x.keep(), 0);
            due("count(3)", x.count(3), 0);
            due("delta(0)", x.delta(0), 0);
            x.more(0, r(4, 4)).woven(1);
            due("delta(0)", x.delta(0), 1);
        });
        test(at, "(in place of what was): how many ANSWERS;", () -> {
            Loom x = new Loom().numbers(0, 25).numbers(1, 20).asked(2).has(0, 0).has(1, 1).woven(500);
            due("keep of 500", x.keep(), 500);
            due("count(3)", x.count(3), 500);
            due("delta(0)", x.delta(0), 0);
            due("delta(1)", x.delta(1), 0);
        });
        test(at, "NONE: nothing was woven.", () -> {
            refused("keep", RefusedSentences::tables, Loom::keep, NONE);
            Loom x = pairs();
            due("keep before a weave", x.keep(), NONE);
            due("count(3)", x.count(3), NONE);
            x.has(0);
            due("weave of what doesn't stand", x.weave(), NONE);
            due("keep", x.keep(), NONE);
            x.numbers(1, 40).asked(2).has(1, 0).has(1, 1);
            due("weave of too many", x.weave(), TOO_MANY);
            due("keep", x.keep(), NONE);
            due("count(3)", x.count(3), NONE);
        });
    }

    private static void delta() {
        String at = "Promise 20";
        test(at, "How many ANSWERS what was woven last has that were not kept (what 0),", () -> {
            Loom x = pairs().woven(4).kept(4);
            due("delta(0)", x.delta(0), 0);
            x.more(0, r(1, 4), r(2, 7), r(NO, NO));
            due("delta(0) till a weave", x.delta(0), 0);
            x.woven(7);
            due("delta(0)", x.delta(0), 3);
            due("delta(1)", x.delta(1), 0);
            x.less(0, r(1, 4)).woven(6);
            due("delta(0)", x.delta(0), 2);
        });
        test(at, "or were kept and are none of it (1);", () -> {
            Loom x = pairs().woven(4).kept(4).less(0, r(1, 5), r(NO, 8)).woven(2);
            due("delta(1)", x.delta(1), 2);
            due("delta(0)", x.delta(0), 0);
            x.less(0, r(2, 6), r(3, 7)).woven(0);
            due("delta(1) of all", x.delta(1), 4);
            x.more(0, r(1, 5)).woven(1);
            due("delta(1)", x.delta(1), 3);
        });
        test(at, "or were kept and are none of it (1);", () -> {
            Loom x = new Loom().with(0, 2, r(-1, -1)).asked(2).has(0, 0, 1).woven(1).kept(1).more(0, r(0, 0)).woven(2);
            due("delta(0) of zeros", x.delta(0), 1);
            x.kept(2).less(0, r(0, 0)).woven(1);
            due("delta(1) of zeros", x.delta(1), 1);
            x.kept(1).less(0, r(-1, -1)).woven(0).kept(0).more(0, r(0, 0)).woven(1);
            due("delta(0) of zeros alone", x.delta(0), 1);
        });
        test(at, "or were kept and are none of it (1);", () -> {
            Loom x = new Loom().numbers(0, 25).numbers(1, 20).asked(2).has(0, 0).has(1, 1).woven(500).kept(500);
            x.with(2, 2, r(0, 0), r(24, 19), r(25, 0)).asked(2).has(2, 0, 1).woven(3);
            due("delta(0)", x.delta(0), 1);
            due("delta(1)", x.delta(1), 498);
            x.kept(3).asked(2).has(0, 0).has(1, 1).woven(500);
            due("delta(0)", x.delta(0), 498);
            due("delta(1)", x.delta(1), 1);
        });
        test(at, "NONE: nothing was kept,", () -> {
            refused("delta", RefusedSentences::tables, x -> x.delta(0), NONE);
            Loom x = pairs().woven(4);
            due("delta(0)", x.delta(0), NONE);
            due("delta(1)", x.delta(1), NONE);
            due("change(0, 0, 0)", x.change(0, 0, 0), 0);
        });
        test(at, "the NAMES are not as many,", () -> {
            Loom x = pairs().woven(4).kept(4).asked(1).has(0, 0).told(5).woven(1);
            due("delta(0) of fewer names", x.delta(0), NONE);
            due("delta(1) of fewer names", x.delta(1), NONE);
            x.asked(3).has(0, 0, 1).has(0, 0, 2);
            due("delta(0) till a weave", x.delta(0), NONE);
            x.woven(4);
            due("delta(0) of more names", x.delta(0), NONE);
            due("delta(1) of more names", x.delta(1), NONE);
            x.asked(2).has(0, 1, 0).woven(4);
            due("delta(0) of as many", x.delta(0), 4);
            x.asked(3);
            due("delta(0) behind another question", x.delta(0), 4);
        });
        test(at, "or another what.", () -> {
            for (int what : new int[] {-1, 2, 3, NO, MAX}) {
                refused("delta(" + what + ")", RefusedSentences::kept, x -> x.delta(what), NONE);
            }
        });
    }

    private static void change() {
        String at = "Promise 21";
        test(at, "The VALUE of NAME k in the i-th of these, in the order of ANSWERS;", () -> {
            Loom x = pairs().woven(4).kept(4).less(0, r(2, 6), r(NO, 8)).more(0, r(NO, NO), r(1, NO), r(1, 6),
                    r(-1, 9));
            x.turned(0, 1).woven(6);
            int[][] came = {r(-1, 9), r(1, 6), r(1, NO), r(NO, NO)};
            int[][] went = {r(2, 6), r(NO, 8)};
            due("delta(0)", x.delta(0), 4);
            due("delta(1)", x.delta(1), 2);
            for (int k = 0; k < 2; k++) {
                for (int i = 0; i < 4; i++) {
                    due("change(0, " + i + ", " + k + ")", x.change(0, i, k), came[i][k]);
                }
                for (int i = 0; i < 2; i++) {
                    due("change(1, " + i + ", " + k + ")", x.change(1, i, k), went[i][k]);
                }
            }
        });
        test(at, "The VALUE of NAME k in the i-th of these, in the order of ANSWERS;", () -> {
            Loom x = new Loom().numbers(0, 25).numbers(1, 20).asked(2).has(0, 0).has(1, 1).woven(500).kept(500);
            x.less(0, r(0)).woven(480);
            due("delta(1)", x.delta(1), 20);
            due("change(1, 19, 1)", x.change(1, 19, 1), 19);
            x.kept(480).more(0, r(0)).woven(500);
            due("change(0, 19, 1)", x.change(0, 19, 1), 19);
            due("change(0, 20, 1)", x.change(0, 20, 1), 0);
            x.asked(2).has(0, 0).has(0, 1).same(0, 1).woven(25).kept(25).asked(2).has(0, 0).has(1, 1).woven(500);
            due("delta(0)", x.delta(0), 480);
            due("change(0, 479, 0)", x.change(0, 479, 0), 24);
            due("change(0, 479, 1)", x.change(0, 479, 1), 19);
            due("delta(1)", x.delta(1), 5);
            due("change(1, 4, 1)", x.change(1, 4, 1), 24);
        });
        test(at, "0: there is none such.", () -> {
            Loom x = pairs().woven(4);
            due("change where nothing was kept", x.change(0, 0, 0), 0);
            x.kept(4).less(0, r(1, 5), r(2, 6)).more(0, r(9, 9)).woven(3);
            due("delta(1)", x.delta(1), 2);
            for (int i : new int[] {-1, 2, 3, 499, 500, NO, MAX}) {
                due("change(1, " + i + ", 0)", x.change(1, i, 0), 0);
                due("change(1, " + i + ", 1)", x.change(1, i, 1), 0);
            }
            due("change(0, 0, 0)", x.change(0, 0, 0), 9);
            due("change(0, 1, 0)", x.change(0, 1, 0), 0);
            for (int k : new int[] {-1, 2, 3, 6, NO, MAX}) {
                due("change(1, 0, " + k + ")", x.change(1, 0, k), 0);
            }
            for (int what : new int[] {-1, 2, 3, NO, MAX}) {
                due("change(" + what + ", 0, 0)", x.change(what, 0, 0), 0);
            }
            x.asked(1).has(0, 0).told(9).woven(1);
            due("change of fewer names", x.change(0, 0, 0), 0);
            due("change of fewer names", x.change(1, 0, 0), 0);
        });
    }
}
