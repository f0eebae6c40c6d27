/** The sentences of promises 13 to 18: weave, answer, meetings, witness, sum, group. */
final class WeavingSentences extends Sentences {
    private WeavingSentences() {
    }

    static void all() {
        weave();
        weavingRefused();
        answer();
        meetings();
        witness();
        sum();
        group();
    }

    private static void weave() {
        String at = "Promise 13";
        test(at, "TO WEAVE: how many ANSWERS", () -> {
            Loom x = new Loom().with(0, 2, r(1, 2), r(2, 3)).asked(2).has(0, 0, 1);
            due("weave", x.weave(), 2);
            due("weave again", x.weave(), 2);
            x.more(0, r(3, 4));
            due("weave when a row has come", x.weave(), 3);
            x.less(0, r(1, 2)).less(0, r(2, 3)).less(0, r(3, 4));
            due("weave when all have gone", x.weave(), 0);
            due("count(2)", x.count(2), 0);
        });
        test(at, "TO WEAVE: how many ANSWERS", () -> {
            Loom x = new Loom().with(0, 1, r(4)).with(1, 3, r(4, 4, 4)).asked(6);
            x.has(1, 0, 1, 2).has(1, 3, 4, 5).has(0, 0).has(0, 3).has(1, 5, 2, 1);
            due("weave of six names and five HAS", x.weave(), 1);
            answers(x, r(4, 4, 4, 4, 4, 4));
            met(x, 1, 1, 1, 1, 1, 1, NONE);
            x.more(0, r(5)).more(1, r(5, 5, 5), r(4, 5, 5));
            due("weave of more", x.weave(), 7);
        });
        test(at, "TO WEAVE: how many ANSWERS", () -> {
            Loom x = new Loom().numbers(0, 40).with(1, 1);
            for (int v = 100; v < 140; v++) {
                x.more(1, r(v));
            }
            x.asked(1).has(0, 0).woven(40).asked(1).has(1, 0).woven(40);
            due("the first of other values", x.answer(0, 0), 100);
            due("the last of other values", x.answer(39, 0), 139);
            due("how many different", x.sum(0, 4), 40);
            x.has(0, 0).woven(0);
            x.asked(1).has(0, 0).woven(40);
            due("the last again", x.answer(39, 0), 39);
        });
        test(at, "TO WEAVE: how many ANSWERS", () -> {
            Loom x = new Loom().with(0, 2, r(0, 7), r(1, 7), r(2, 7), r(3, 7)).with(1, 1, r(3), r(5));
            x.asked(2).has(0, 0, 1).has(1, 0).woven(1);
            x.less(0, r(3, 7)).more(0, r(2, 8)).less(1, r(5)).woven(0);
            met(x, 0, 0);
            x.more(1, r(2)).woven(2);
            met(x, 1, 2);
            answers(x, r(2, 7), r(2, 8));
        });
        test(at, "(these, MEETINGS and what hangs on them are told from now on);", () -> {
            Loom x = new Loom().with(0, 2, r(1, 5), r(1, 6), r(2, 6)).asked(2).has(0, 0, 1).woven(3);
            x.less(0, r(1, 5)).more(0, r(0, 0), r(3, 3)).turned(0, 1).sameAs(0, 3);
            answers(x, r(1, 5), r(1, 6), r(2, 6));
            met(x, 2, 3, NONE);
            due("witness", x.witness(2, 0), 2);
            due("sum", x.sum(0, 0), 4);
            due("group", x.group(0, 1, 1, 1), 11);
            x.asked(3).numbers(1, 2);
            answers(x, r(1, 5), r(1, 6), r(2, 6));
            met(x, 2, 3, NONE);
            due("witness", x.witness(2, 0), 2);
            due("sum of a name that is the question's alone", x.sum(2, 1), 0);
            x.has(1, 0).has(1, 1).has(1, 2).woven(8);
            met(x, 2, 4, 8);
            due("the last answer", x.answer(7, 2), 1);
            due("witness", x.witness(7, 2), 1);
            due("sum", x.sum(2, 1), 8);
            x.asked(1).has(1, 0).woven(2);
            answers(x, r(0), r(1));
            met(x, 2, NONE, NONE);
            due("answer of a name before", x.answer(0, 1), 0);
            due("answer behind the last", x.answer(2, 0), 0);
            due("witness of a part before", x.witness(0, 1), NONE);
        });
        test(at, "(these, MEETINGS and what hangs on them are told from now on);", () -> {
            Loom x = new Loom().with(0, 3, r(1, 5, 8), r(2, 6, 9)).asked(3).has(0, 0, 1, 2).woven(2).kept(2).asked(1);
            answers(x, r(1, 5, 8), r(2, 6, 9));
            met(x, 2, 2, 2, NONE);
            due("witness behind a question of fewer names", x.witness(1, 0), 1);
            due("sum behind a question of fewer names", x.sum(2, 0), 17);
            due("group behind a question of fewer names", x.group(1, 6, 1, 2), 9);
            due("delta behind a question of fewer names", x.delta(0), 0);
        });
    }

    private static void weavingRefused() {
        String at = "Promise 13";
        test(at, "-2: TOO MANY;", () -> {
            refused("weave of 529", RefusedSentences::tooMany, Loom::weave, TOO_MANY);
            Loom x = RefusedSentences.tooMany();
            due("weave", x.weave(), TOO_MANY);
            x.sameAs(0, 4).woven(23);
        });
        test(at, "NONE: the QUESTION doesn't STAND.", () -> {
            refused("weave without a question", RefusedSentences::tables, Loom::weave, NONE);
            refused("weave without parts", RefusedSentences::asked, Loom::weave, NONE);
            refused("weave of a part that lacks a place", RefusedSentences::halfOpen, Loom::weave, NONE);
            refused("weave of a part that lacks all places", RefusedSentences::open, Loom::weave, NONE);
            refused("weave of a part that lacks a place for ever", RefusedSentences::compared, Loom::weave, NONE);
            refused("weave of a name in no HAS", () -> RefusedSentences.asked().has(1, 1).not(0, 0, 1), Loom::weave,
                    NONE);
        });
        test(at, "(By both what was woven before stays.)", () -> {
            Loom x = RefusedSentences.tooMany();
            due("weave", x.weave(), TOO_MANY);
            answers(x, r(2, 1), r(2, 4), r(3, NO));
            met(x, 3, 3, NONE);
            due("witness", x.witness(0, 0), 1);
            due("witness", x.witness(2, 0), 4);
            due("witness of a NOT", x.witness(2, 1), NONE);
            due("delta", x.delta(0), 1);
            due("sum", x.sum(1, 4), 3);
            due("part that lacks a place", x.part(HAS, 1), 2);
            due("weave", x.weave(), NONE);
            answers(x, r(2, 1), r(2, 4), r(3, NO));
            met(x, 3, 3, NONE);
            due("keep", x.keep(), 3);
        });
        test(at, "(By both what was woven before stays.)", () -> {
            Loom x = new Loom().numbers(0, 40).asked(2).has(0, 0).has(0, 1);
            due("weave", x.weave(), TOO_MANY);
            due("count(2) where nothing was woven before", x.count(2), NONE);
            met(x, NONE, NONE);
            due("answer", x.answer(0, 0), 0);
            due("keep", x.keep(), NONE);
        });
    }

    private static void answer() {
        String at = "Promise 14";
        test(at, "The VALUE of NAME k in ANSWER i;", () -> {
            Loom x = new Loom().with(0, 3, r(3, 1, NO), r(2, NO, 5), r(2, MAX, NO + 1)).asked(3).has(0, 2, 1, 0);
            x.woven(3);
            answers(x, r(NO + 1, MAX, 2), r(5, NO, 2), r(NO, 1, 3));
            Loom y = new Loom().numbers(0, 25).numbers(1, 20).asked(2).has(0, 0).has(1, 1).woven(500);
            due("answer(0, 0)", y.answer(0, 0), 0);
            due("answer(20, 0)", y.answer(20, 0), 1);
            due("answer(39, 1)", y.answer(39, 1), 19);
            due("answer(499, 0)", y.answer(499, 0), 24);
            due("answer(499, 1)", y.answer(499, 1), 19);
        });
        test(at, "0: there is none such.", () -> {
            Loom x = new Loom();
            due("answer where nothing was woven", x.answer(0, 0), 0);
            x.with(0, 2, r(5, 6), r(7, 8), r(9, 10)).asked(2).has(0, 0, 1).woven(3).less(0, r(9, 10)).woven(2);
            for (int i : new int[] {-1, 2, 3, 500, NO, MAX}) {
                due("answer(" + i + ", 0)", x.answer(i, 0), 0);
                due("answer(" + i + ", 1)", x.answer(i, 1), 0);
            }
            for (int k : new int[] {-1, 2, 5, 6, NO, MAX}) {
                due("answer(0, " + k + ")", x.answer(0, k), 0);
            }
            x.lessThan(0, 0).woven(0);
            due("answer of none", x.answer(0, 0), 0);
            Loom y = new Loom().numbers(0, 25).numbers(1, 20).asked(2).has(0, 0).has(1, 1).woven(500);
            due("answer(500, 0)", y.answer(500, 0), 0);
        });
    }

    private static void meetings() {
        String at = "Promise 15";
        test(at, "How many MEETINGS there were at the i-th NAME of THE ORDER;", () -> {
            Loom x = new Loom().with(0, 2, r(1, 5), r(1, 6), r(2, 6)).with(1, 1, r(8), r(9)).asked(3);
            x.has(0, 0, 1).has(1, 2).turned(0, 2).woven(6);
            met(x, 2, 4, 6);
            x.turned(0, 0).turned(1, 2);
            met(x, 2, 4, 6);
            x.woven(6);
            met(x, 2, 4, 6);
            x.turned(1, 1).woven(6);
            met(x, 2, 3, 6);
            x.turned(0, 1).woven(6);
            met(x, 2, 3, 6);
            x.lessThan(2, 8).woven(0);
            met(x, 2, 3, 0);
            x.turned(0, 2).woven(0);
            met(x, 0, 0, 0);
        });
        test(at, "NONE: there is none such.", () -> {
            Loom x = new Loom();
            due("meetings where nothing was woven", x.meetings(0), NONE);
            x.with(0, 2, r(5, 6), r(7, 8)).asked(2).has(0, 0, 1);
            due("meetings where nothing was woven", x.meetings(0), NONE);
            x.woven(2).asked(6);
            met(x, 2, 2);
            for (int i : new int[] {-1, 2, 3, 5, 6, NO, MAX}) {
                due("meetings(" + i + ")", x.meetings(i), NONE);
            }
        });
    }

    private static void witness() {
        String at = "Promise 16";
        String words = "The place in its TABLE's order that the ROW by which PART p, a HAS,"
                + " is true for ANSWER i had when it was woven;";
        test(at, words, () -> {
            Loom x = new Loom().with(0, 2, r(1, 5), r(1, 6), r(2, 6)).numbers(1, 40).asked(3);
            x.has(1, 2).not(0, 2, 2).has(0, 0, 1).lessThan(1, 6).has(1, 0).has(1).told(39);
            x.has(0, 0, 1).sameAs(2, 39).woven(1);
            due("witness of part 0", x.witness(0, 0), 39);
            due("witness of part 2", x.witness(0, 2), 0);
            due("witness of part 4", x.witness(0, 4), 1);
            due("witness of part 5", x.witness(0, 5), 39);
            due("witness of part 6", x.witness(0, 6), 0);
        });
        test(at, words, () -> {
            Loom x = new Loom().with(0, 2, r(4, 1), r(5, 3), r(6, 2), r(NO, 0)).asked(2).has(0, 1, 0).woven(4);
            int[] places = {3, 0, 2, 1};
            for (int i = 0; i < 4; i++) {
                due("witness(" + i + ", 0)", x.witness(i, 0), places[i]);
            }
            x.more(0, r(0, 9)).less(0, r(5, 3));
            for (int i = 0; i < 4; i++) {
                due("witness(" + i + ", 0) when rows came and went", x.witness(i, 0), places[i]);
            }
            x.asked(1).not(0, 0, 0);
            for (int i = 0; i < 4; i++) {
                due("witness(" + i + ", 0) behind another question", x.witness(i, 0), places[i]);
            }
            due("table made anew", x.ask(1) && x.table(0, 1), true);
            due("witness when the table is another", x.witness(3, 0), 1);
        });
        test(at, words, () -> {
            Loom x = new Loom().numbers(0, 40).asked(5).has(0, 4).has(0, 3).has(0, 2).has(0, 1).has(0, 0);
            x.sameAs(4, 39).sameAs(3, 31).sameAs(2, 16).sameAs(1, 32).sameAs(0, 39).woven(1);
            int[] places = {39, 31, 16, 32, 39};
            for (int p = 0; p < 5; p++) {
                due("witness(0, " + p + ")", x.witness(0, p), places[p]);
            }
        });
        test(at, words, () -> {
            Loom x = new Loom().numbers(0, 40).asked(2).has(0, 0).has(0, 1).same(0, 1).woven(40);
            for (int i = 0; i < 40; i++) {
                due("witness(" + i + ", 1)", x.witness(i, 1), i);
            }
        });
        test(at, "NONE: there is none such.", () -> {
            Loom x = new Loom();
            due("witness where nothing was woven", x.witness(0, 0), NONE);
            x.numbers(0, 3).asked(1).not(0).told(9).has(0, 0).sameAs(0, 1).lessThan(0, 2).woven(1);
            due("witness of a HAS", x.witness(0, 1), 1);
            for (int p : new int[] {-1, 0, 2, 3, 4, 5, 9, 10, NO, MAX}) {
                due("witness(0, " + p + ")", x.witness(0, p), NONE);
            }
            for (int i : new int[] {-1, 1, 2, 500, NO, MAX}) {
                due("witness(" + i + ", 1)", x.witness(i, 1), NONE);
            }
            x.asked(1).has(0, 0).woven(3).has(0, 0);
            due("witness of a part that wasn't woven", x.witness(0, 1), NONE);
            x.lessThan(0, 1).woven(1);
            due("witness of an answer before", x.witness(1, 0), NONE);
        });
    }

    private static void summed(Loom x, int k, long... due) {
        for (int what = 0; what < due.length; what++) {
            due("sum(" + k + ", " + what + ")", x.sum(k, what), due[what]);
        }
    }

    private static void sum() {
        String at = "Promise 17";
        Loom numbers = new Loom().with(0, 2, r(4, -9), r(5, -9), r(NO, -7), r(6, NO), r(6, -9)).asked(2).has(0, 0, 1);
        numbers.woven(5);
        test(at, "Over all ANSWERS, NAME k's VALUES that are numbers, what 0: their sum,", () -> {
            due("sum(0, 0)", numbers.sum(0, 0), 21);
            due("sum(1, 0)", numbers.sum(1, 0), -34);
            Loom x = new Loom().with(0, 1, r(MAX), r(MAX - 1), r(MAX - 2)).asked(1).has(0, 0).woven(3);
            due("a sum above the ints", x.sum(0, 0), 3L * MAX - 3);
            x.with(1, 1, r(NO + 1), r(NO + 2), r(NO)).asked(1).has(1, 0).woven(3);
            due("a sum below the ints", x.sum(0, 0), 2L * NO + 3);
            x.numbers(2, 20).with(3, 2);
            for (int i = 0; i < 25; i++) {
                x.more(3, r(MAX, i));
            }
            x.asked(3).has(2, 2).has(3, 0, 1).woven(500);
            due("a sum of 500", x.sum(0, 0), 500L * MAX);
        });
        test(at, "1 how many,", () -> {
            due("sum(0, 1)", numbers.sum(0, 1), 4);
            due("sum(1, 1)", numbers.sum(1, 1), 4);
        });
        test(at, "2 the greatest,", () -> {
            due("sum(0, 2)", numbers.sum(0, 2), 6);
            due("sum(1, 2)", numbers.sum(1, 2), -7);
        });
        test(at, "3 the least", () -> {
            due("sum(0, 3)", numbers.sum(0, 3), 4);
            due("sum(1, 3)", numbers.sum(1, 3), -9);
            Loom x = new Loom().with(0, 1, r(NO), r(NO + 1), r(MAX)).asked(1).has(0, 0).woven(3);
            summed(x, 0, 0, 2, MAX, NO + 1, 3);
        });
        test(at, "(2, 3: NO if there is none),", () -> {
            Loom x = new Loom().with(0, 1, r(NO)).asked(1).has(0, 0).woven(1);
            summed(x, 0, 0, 0, NO, NO, 1);
            x.sameAs(0, 3).woven(0);
            summed(x, 0, 0, 0, NO, NO, 0);
        });
        test(at, "4: how many different VALUES (NO NUMBER too).", () -> {
            due("sum(0, 4)", numbers.sum(0, 4), 4);
            due("sum(1, 4)", numbers.sum(1, 4), 3);
            Loom x = new Loom().numbers(0, 40).numbers(1, 12).asked(2).has(0, 0).has(1, 1).woven(480);
            due("sum(0, 4) of 40", x.sum(0, 4), 40);
            due("sum(1, 4) of 12", x.sum(1, 4), 12);
        });
        test(at, "0 for others,", () -> {
            for (int what : new int[] {-1, 5, 6, 10, NO, MAX}) {
                due("sum(0, " + what + ")", numbers.sum(0, what), 0);
            }
        });
        test(at, "NAMES that what was woven has not.", () -> {
            for (int k : new int[] {-1, 2, 5, 6, NO, MAX}) {
                summed(numbers, k, 0, 0, 0, 0, 0);
            }
            Loom x = new Loom().numbers(0, 2).asked(1).has(0, 0);
            summed(x, 0, 0, 0, 0, 0, 0);
            x.woven(2).asked(2);
            summed(x, 0, 1, 2, 1, 0, 2);
            summed(x, 1, 0, 0, 0, 0, 0);
        });
    }

    private static void group() {
        String at = "Promise 18";
        Loom x = new Loom().with(0, 2, r(1, MAX), r(1, MAX - 2), r(1, NO), r(2, 5), r(NO, 6), r(NO, NO), r(0, -3));
        x.asked(2).has(0, 0, 1).woven(7);
        test(at, "Over the ANSWERS that have VALUE v for NAME k:", () -> {
            due("of a value", x.group(0, 1, 0, 0), 3);
            due("of the other name's value", x.group(1, 5, 0, 0), 1);
            due("of NO NUMBER", x.group(0, NO, 0, 1), 2);
            due("of NO NUMBER", x.group(1, NO, 0, 1), 2);
            due("of 0", x.group(0, 0, 0, 1), 1);
            due("of a value that isn't there", x.group(0, 3, 0, 0), 0);
            due("of a value that isn't there", x.group(0, MAX, 1, 1), 0);
        });
        test(at, "how 0 how many,", () -> {
            for (int j : new int[] {0, 1}) {
                due("how many", x.group(0, 1, 0, j), 3);
                due("how many", x.group(1, NO, 0, j), 2);
            }
        });
        test(at, "1 the sum of NAME j's numbers.", () -> {
            due("a sum above the ints", x.group(0, 1, 1, 1), 2L * MAX - 2);
            due("a sum of the name itself", x.group(0, 1, 1, 0), 3);
            due("a sum of one number and NO NUMBER", x.group(0, NO, 1, 1), 6);
            due("a sum of NO NUMBER alone", x.group(0, NO, 1, 0), 0);
            due("a sum of one and NO NUMBER", x.group(1, NO, 1, 0), 1);
            due("a sum below 0", x.group(0, 0, 1, 1), -3);
        });
        test(at, "0 for others.", () -> {
            for (int off : new int[] {-1, 2, 5, 6, NO, MAX}) {
                due("name " + off, x.group(off, 0, 0, 0), 0);
                due("name " + off, x.group(off, 1, 1, 0), 0);
                due("the sum of name " + off, x.group(0, 1, 1, off), 0);
                due("how " + off, x.group(0, 1, off, 0), 0);
            }
            Loom y = new Loom().numbers(0, 2).asked(1).has(0, 0);
            due("how many where nothing was woven", y.group(0, 0, 0, 0), 0);
            due("the sum where nothing was woven", y.group(0, 0, 1, 0), 0);
            y.woven(2).asked(2);
            due("of a name of the question alone", y.group(1, 0, 0, 0), 0);
            due("the sum of a name of the question alone", y.group(0, 1, 1, 1), 0);
            due("the sum of the name", y.group(0, 1, 1, 0), 1);
            y.asked(1).has(0, 0).sameAs(0, 7).woven(0);
            due("of no answers", y.group(0, 0, 0, 0), 0);
            due("how many, whatever j is", x.group(0, 1, 0, 9), 3);
        });
    }
}
