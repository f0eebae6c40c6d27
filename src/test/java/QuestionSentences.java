import java.util.function.Supplier;

/** The sentences of promises 7 to 12: ask, part, name, value, compare, order. */
final class QuestionSentences extends Sentences {
    private static final int[] OFF = {-1, 2, 3, 6, 31, 32, 33, 64, NO, MAX};

    private QuestionSentences() {
    }

    static void all() {
        ask();
        part();
        name();
        value();
        compare();
        comparingNoSuch();
        order();
    }

    private static void ask() {
        String at = "Promise 7";
        test(at, "A QUESTION of n NAMES,", () -> {
            for (int n : new int[] {1, 6, 2, 5, 3, 4}) {
                Loom x = new Loom();
                due("ask", x.ask(n), true);
                due("count(0)", x.count(0), n);
                due("ask again", x.ask(7 - n), true);
                due("count(0)", x.count(0), 7 - n);
            }
        });
        test(at, "without PARTS,", () -> {
            Loom x = RefusedSentences.fiveHas();
            due("ask", x.ask(2), true);
            due("count(1)", x.count(1), 0);
            due("name", x.name(0), NONE);
            due("value", x.value(0), NONE);
            due("weave", x.weave(), NONE);
            for (int p = 0; p < 5; p++) {
                due("HAS", x.part(HAS, 1), p);
            }
            due("a sixth HAS", x.part(HAS, 1), NONE);
            x = RefusedSentences.tenParts();
            due("ask", x.ask(1), true);
            due("part", x.part(NOT, 1), 0);
            due("a place", x.name(0), 1);
            x = RefusedSentences.open();
            due("ask", x.ask(2), true);
            due("a place of a part before", x.name(0), NONE);
            x.has(0, 0, 1).woven(7);
        });
        test(at, "THE ORDER 0, 1, ..: true;", () -> {
            Loom x = new Loom().asked(6).turned(0, 5).turned(1, 4).turned(2, 3);
            due("ask", x.ask(6), true);
            ordered(x, 0, 1, 2, 3, 4, 5, NONE);
            x.turned(0, 5).turned(1, 4).turned(2, 3);
            due("ask", x.ask(3), true);
            ordered(x, 0, 1, 2, NONE);
            due("ask", x.ask(6), true);
            ordered(x, 0, 1, 2, 3, 4, 5, NONE);
        });
        test(at, "false: no such n.", () -> {
            for (int n : new int[] {-1, 0, 7, 8, 32, NO, MAX}) {
                refused("ask(" + n + ")", RefusedSentences::kept, x -> bit(x.ask(n)), 0);
            }
            refused("ask(0)", RefusedSentences::halfOpen, x -> bit(x.ask(0)), 0);
            refused("ask(7)", RefusedSentences::fiveHas, x -> bit(x.ask(7)), 0);
        });
    }

    private static void part() {
        String at = "Promise 8";
        test(at, "A HAS (kind 0) or NOT (1) of TABLE t, without places: its number;", () -> {
            Loom x = new Loom().numbers(0, 3).numbers(7, 1).asked(1);
            due("HAS", x.part(HAS, 0), 0);
            due("its place", x.name(0), 1);
            due("NOT", x.part(NOT, 7), 1);
            due("its place", x.name(0), 1);
            due("HAS", x.part(HAS, 7), 2);
            due("its place", x.value(0), 1);
            x.woven(2);
            answers(x, r(1), r(2));
            x.with(1, 3).asked(2).has(1, 0, 1).has(1);
            due("places of the new part", x.name(0), 1);
        });
        test(at, "NONE: no QUESTION,", () -> {
            for (int kind = 0; kind < 2; kind++) {
                int its = kind;
                refused("part(" + kind + ", 0)", RefusedSentences::tables, x -> x.part(its, 0), NONE);
            }
        });
        test(at, "kind,", () -> {
            for (int kind : new int[] {-1, 2, 3, 4, NO, MAX}) {
                refused("part(" + kind + ", 2)", RefusedSentences::kept, x -> x.part(kind, 2), NONE);
            }
        });
        test(at, "TABLE,", () -> {
            for (int t : new int[] {-1, 3, 7, 8, NO, MAX}) {
                refused("part(0, " + t + ")", RefusedSentences::kept, x -> x.part(HAS, t), NONE);
                refused("part(1, " + t + ")", RefusedSentences::halfOpen, x -> x.part(NOT, t), NONE);
            }
        });
        test(at, "10 PARTS are there,", () -> {
            refused("an eleventh part, a HAS", RefusedSentences::tenParts, x -> x.part(HAS, 2), NONE);
            refused("an eleventh part, a NOT", RefusedSentences::tenParts, x -> x.part(NOT, 2), NONE);
            Loom x = new Loom().numbers(0, 1).asked(1);
            for (int p = 0; p < 9; p++) {
                due("NOT", x.part(NOT, 0), p);
            }
            due("a tenth part, a HAS", x.part(HAS, 0), 9);
            due("its place", x.name(0), 1);
            due("an eleventh part", x.part(NOT, 0), NONE);
        });
        test(at, "or 5 HAS.", () -> {
            refused("a sixth HAS", RefusedSentences::fiveHas, x -> x.part(HAS, 2), NONE);
            Loom x = new Loom().numbers(0, 1).asked(1).not(0, 0).lessThan(0, 4);
            for (int p = 2; p < 7; p++) {
                due("HAS", x.part(HAS, 0), p);
            }
            due("a sixth HAS", x.part(HAS, 0), NONE);
            due("its place", x.name(0), 1);
            due("a NOT behind five HAS", x.part(NOT, 0), 7);
            due("a LESS behind five HAS", x.compare(LESS, 0, false, 3), 8);
            due("a sixth HAS", x.part(HAS, 0), NONE);
            due("count(1)", x.count(1), 9);
        });
    }

    private static void name() {
        String at = "Promise 9";
        test(at, "The last PART's next place has NAME k: how many places it has;", () -> {
            Loom x = new Loom().with(0, 3, r(1, 2, 3), r(2, 1, 3), r(3, 3, 3)).numbers(1, 3);
            x.asked(6).has(0);
            due("name", x.name(5), 1);
            due("name", x.name(0), 2);
            due("name", x.name(5), 3);
            x.asked(3).has(0).has(0);
            due("name of the last", x.name(1), 1);
            due("name of the last", x.name(0), 2);
            due("name of the last", x.name(2), 3);
            due("weave where one before lacks places", x.weave(), NONE);
            x.asked(1).has(1, 0).not(0);
            due("name of a NOT", x.name(0), 1);
            due("value of a NOT", x.value(3), 2);
            due("name of a NOT", x.name(0), 3);
            x.woven(3);
        });
        test(at, "NONE: there is no PART,", () -> {
            refused("name without a question", RefusedSentences::tables, x -> x.name(0), NONE);
            refused("name without a part", RefusedSentences::asked, x -> x.name(0), NONE);
        });
        test(at, "no HAS or NOT,", () -> {
            refused("name behind a LESS", RefusedSentences::compared, x -> x.name(0), NONE);
            Supplier<Loom> same = () -> RefusedSentences.halfOpen().same(0, 1);
            refused("name behind a SAME", same, x -> x.name(0), NONE);
        });
        test(at, "no such NAME,", () -> {
            for (int k : OFF) {
                refused("name(" + k + ")", RefusedSentences::halfOpen, x -> x.name(k), NONE);
            }
            Loom x = new Loom().with(0, 3).asked(6).has(0);
            due("name(6)", x.name(6), NONE);
            due("name(5)", x.name(5), 1);
        });
        test(at, "it has as many as its TABLE has COLUMNS.", () -> {
            refused("a third place of two", RefusedSentences::fiveHas, x -> x.name(0), NONE);
            refused("a second place of one", RefusedSentences::tenParts, x -> x.name(0), NONE);
            Loom x = new Loom().with(0, 3).asked(1).has(0, 0, 0);
            due("a third place of three", x.name(0), 3);
            due("a fourth place of three", x.name(0), NONE);
            due("a fourth place of three", x.value(0), NONE);
            due("count(4)", x.count(4), 1);
        });
    }

    private static void value() {
        String at = "Promise 10";
        test(at, "The last PART's next place has a told VALUE:", () -> {
            for (int v : new int[] {NO, NO + 1, -1, 0, 1, MAX}) {
                Loom x = new Loom().with(0, 2, r(v, 5), r(7, 6)).asked(1).has(0);
                due("value(" + v + ")", x.value(v), 1);
                x.name(0);
                x.woven(1);
                answers(x, r(5));
                x.not(0);
                due("value(" + v + ") of a NOT", x.value(v), 1);
                x.name(0);
                x.woven(0);
            }
        });
        test(at, "likewise.", () -> {
            refused("value without a question", RefusedSentences::tables, x -> x.value(0), NONE);
            refused("value without a part", RefusedSentences::asked, x -> x.value(0), NONE);
            refused("value behind a LESS", RefusedSentences::compared, x -> x.value(0), NONE);
            refused("a third place of two", RefusedSentences::fiveHas, x -> x.value(0), NONE);
            refused("a second place of one", RefusedSentences::tenParts, x -> x.value(0), NONE);
            Loom x = new Loom().with(0, 3).asked(1).has(0).told(1, 2);
            due("a third place of three", x.value(3), 3);
            due("a fourth place of three", x.value(4), NONE);
            due("a fourth place of three", x.name(0), NONE);
        });
    }

    private static void compare() {
        String at = "Promise 11";
        test(at, "A SAME (kind 2) or LESS (3) of NAME k and NAME v (byName), or VALUE v: its number;", () -> {
            Loom x = new Loom().numbers(0, 4).asked(3).has(0, 0).has(0, 1).has(0, 2);
            due("LESS of names", x.compare(LESS, 2, true, 1), 3);
            due("SAME of names", x.compare(SAME, 0, true, 2), 4);
            due("LESS with a value", x.compare(LESS, 1, false, 2), 5);
            due("SAME of one name", x.compare(SAME, 1, true, 1), 6);
            x.woven(1);
            answers(x, r(0, 1, 0));
            due("SAME with a value", x.compare(SAME, 0, false, 1), 7);
            due("LESS of one name", x.compare(LESS, 0, true, 0), 8);
            x.woven(0);
        });
        test(at, "A SAME (kind 2) or LESS (3) of NAME k and NAME v (byName), or VALUE v: its number;", () -> {
            for (int v : new int[] {NO, NO + 1, -1, 0, 1, MAX}) {
                Loom x = new Loom().with(0, 1, r(NO), r(NO + 1), r(-1), r(0), r(1), r(MAX)).asked(1).has(0, 0);
                due("SAME with " + v, x.compare(SAME, 0, false, v), 1);
                x.woven(1);
                answers(x, r(v));
                int ahead = v == NO ? 5 : v == NO + 1 ? 0 : v == MAX ? 4 : v + 2;
                x.asked(1).has(0, 0);
                due("LESS with " + v, x.compare(LESS, 0, false, v), 1);
                x.woven(ahead);
            }
        });
        test(at, "NONE: no QUESTION,", () -> {
            refused("SAME", RefusedSentences::tables, x -> x.compare(SAME, 0, false, 1), NONE);
            refused("LESS", RefusedSentences::tables, x -> x.compare(LESS, 0, true, 0), NONE);
        });
        test(at, "10 PARTS are there.", () -> {
            refused("an eleventh part, a SAME", RefusedSentences::tenParts, x -> x.compare(SAME, 0, true, 1), NONE);
            refused("an eleventh part, a LESS", RefusedSentences::tenParts, x -> x.compare(LESS, 0, false, 1), NONE);
            Loom x = new Loom().numbers(0, 5).asked(1).has(0, 0);
            for (int p = 1; p < 10; p++) {
                due("LESS", x.compare(LESS, 0, false, 12 - p), p);
            }
            due("an eleventh", x.compare(LESS, 0, false, 0), NONE);
            x.woven(3);
        });
    }

    private static void comparingNoSuch() {
        String at = "Promise 11";
        test(at, "kind,", () -> {
            for (int kind : new int[] {-1, 0, 1, 4, 5, NO, MAX}) {
                refused("compare(" + kind + ", ..)", RefusedSentences::kept, x -> x.compare(kind, 0, true, 1), NONE);
            }
            refused("compare(0, ..)", RefusedSentences::halfOpen, x -> x.compare(HAS, 0, false, 1), NONE);
        });
        test(at, "NAMES,", () -> {
            for (int k : OFF) {
                refused("SAME of " + k, RefusedSentences::kept, x -> x.compare(SAME, k, false, 1), NONE);
                refused("LESS of " + k, RefusedSentences::kept, x -> x.compare(LESS, k, true, 1), NONE);
                refused("SAME with " + k, RefusedSentences::kept, x -> x.compare(SAME, 0, true, k), NONE);
                refused("LESS with " + k, RefusedSentences::kept, x -> x.compare(LESS, 1, true, k), NONE);
            }
            Loom x = new Loom().asked(6);
            due("SAME of the last names", x.compare(SAME, 5, true, 5), 0);
            due("SAME of 6", x.compare(SAME, 6, true, 5), NONE);
            due("SAME with 6", x.compare(SAME, 5, true, 6), NONE);
        });
    }

    private static void order() {
        String at = "Promise 12";
        test(at, "THE ORDER: the i-th NAME is k, which changes places with the one there: true;", () -> {
            Loom x = new Loom().asked(6);
            due("order(0, 5)", x.order(0, 5), true);
            ordered(x, 5, 1, 2, 3, 4, 0, NONE);
            due("order(5, 3)", x.order(5, 3), true);
            ordered(x, 5, 1, 2, 0, 4, 3, NONE);
            due("order(3, 0), as it is", x.order(3, 0), true);
            ordered(x, 5, 1, 2, 0, 4, 3, NONE);
            due("order(4, 5)", x.order(4, 5), true);
            ordered(x, 4, 1, 2, 0, 5, 3, NONE);
            x.asked(1);
            due("order(0, 0)", x.order(0, 0), true);
            ordered(x, 0, NONE);
        });
        test(at, "THE ORDER: the i-th NAME is k, which changes places with the one there: true;", () -> {
            Loom x = new Loom().with(0, 2, r(1, 5), r(1, 6), r(2, 6)).asked(2).has(0, 0, 1).woven(3);
            due("order", x.order(0, 1), true);
            met(x, 2, 3);
            answers(x, r(1, 5), r(1, 6), r(2, 6));
            due("count(1)", x.count(1), 1);
            due("count(4)", x.count(4), 1);
        });
        test(at, "false: no QUESTION,", () -> {
            refused("order(0, 0)", RefusedSentences::tables, x -> bit(x.order(0, 0)), 0);
            refused("order(0, 1)", RefusedSentences::tables, x -> bit(x.order(0, 1)), 0);
        });
        test(at, "no such i,", () -> {
            for (int i : OFF) {
                refused("order(" + i + ", 0)", RefusedSentences::kept, x -> bit(x.order(i, 0)), 0);
            }
            due("order(6, 0)", new Loom().asked(6).order(6, 0), false);
        });
        test(at, "k.", () -> {
            for (int k : OFF) {
                refused("order(0, " + k + ")", RefusedSentences::kept, x -> bit(x.order(0, k)), 0);
            }
            due("order(0, 6)", new Loom().asked(6).order(0, 6), false);
        });
    }
}
