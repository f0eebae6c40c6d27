/** The sentences of promises 22 to 24: bound, cover, best. */
final class BoundSentences extends Sentences {
    private BoundSentences() {
    }

    static void all() {
        bound();
        cover();
        best();
        bestOfSeveral();
        bestRefused();
    }

    private static void bound() {
        String at = "Promise 22";
        test(at, "THE BOUND of the QUESTION as it is;", () -> {
            Loom x = new Loom().numbers(0, 3).numbers(1, 2).asked(1).has(0, 0).woven(3);
            due("bound", x.bound(), 9);
            x.more(0, r(7));
            due("bound when a row has come", x.bound(), 16);
            x.has(1, 0);
            due("bound when a part has come", x.bound(), 4);
            x.less(1, r(0)).less(1, r(1));
            due("bound when all rows have gone", x.bound(), 0);
            x.asked(2).has(0, 0).has(0, 1).turned(0, 1).same(0, 1);
            due("bound of another question", x.bound(), 256);
        });
        test(at, "THE BOUND of the QUESTION as it is;", () -> {
            Loom x = new Loom().numbers(0, 40).asked(2).has(0, 0).has(0, 1);
            due("weave", x.weave(), TOO_MANY);
            due("bound of what is too many", x.bound(), 2560000);
            x.asked(6);
            for (int k = 0; k < 4; k++) {
                x.has(0, k);
            }
            x.with(1, 2);
            for (int i = 0; i < 40; i++) {
                x.more(1, r(i, i));
            }
            x.has(1, 4, 5);
            due("the greatest bound", x.bound(), 10485760000000000L);
        });
        test(at, "NONE: it doesn't STAND.", () -> {
            refused("bound without a question", RefusedSentences::tables, Loom::bound, NONE);
            refused("bound of names alone", RefusedSentences::asked, Loom::bound, NONE);
            refused("bound of a part that lacks a place", RefusedSentences::halfOpen, Loom::bound, NONE);
            refused("bound of a part that lacks a place for ever", RefusedSentences::compared, Loom::bound, NONE);
            Loom x = new Loom().numbers(0, 3).with(1, 2).asked(2).has(0, 0).not(1, 0, 1);
            due("bound with a name in no HAS", x.bound(), NONE);
            x.has(0, 1);
            due("bound with all names", x.bound(), 81);
            x.not(1).told(4);
            due("bound with a NOT that lacks a place", x.bound(), NONE);
        });
    }

    private static void cover() {
        String at = "Promise 23";
        test(at, "The SHARE of PART p in THE COVER, in halves;", () -> {
            Loom x = new Loom().with(0, 2, r(1, 2), r(2, 3), r(3, 1)).with(1, 1, r(1)).asked(3);
            x.not(1, 0).has(0, 0, 1).same(0, 0).has(0, 1, 2).has(0, 2, 0);
            covered(x, NONE, 1, NONE, 1, 1, NONE);
            x.has(1, 0);
            covered(x, NONE, 0, NONE, 2, 0, 2, NONE);
            x.more(1, r(2), r(3));
            covered(x, NONE, 1, NONE, 1, 1, 0, NONE);
            x.asked(1).has(1, 0);
            covered(x, 2, NONE);
        });
        test(at, "NONE: it doesn't STAND,", () -> {
            refused("cover without a question", RefusedSentences::tables, x -> x.cover(0), NONE);
            refused("cover of a part that lacks a place", RefusedSentences::halfOpen, x -> x.cover(0), NONE);
            refused("cover of a part that lacks a place for ever", RefusedSentences::compared, x -> x.cover(0), NONE);
            Loom x = new Loom().numbers(0, 3).asked(2).has(0, 0);
            due("cover with a name in no HAS", x.cover(0), NONE);
            x.has(0, 1);
            covered(x, 2, 2);
        });
        test(at, "or p is no HAS that has a NAME.", () -> {
            Loom x = new Loom().numbers(0, 3).asked(1).has(0).told(1).not(0).told(7).has(0, 0).lessThan(0, 9);
            x.not(0).told(8);
            covered(x, NONE, NONE, 2, NONE, NONE, NONE);
            for (int p : new int[] {-1, 5, 6, 9, 10, NO, MAX}) {
                due("cover(" + p + ")", x.cover(p), NONE);
            }
            x.asked(1).has(0, 0);
            due("cover of a part before", x.cover(2), NONE);
        });
    }

    /** Two rows of name 0 for each of name 1, and a name 2 of three values. */
    private static Loom fan() {
        return new Loom().with(0, 2, r(1, 1), r(2, 1), r(3, 2), r(4, 2)).with(1, 1, r(7), r(8), r(9));
    }

    private static void best() {
        String at = "Promise 24";
        test(at, "THE ORDER by which MEETINGS at all NAMES are fewest together", () -> {
            Loom x = fan().asked(3).has(0, 0, 1).has(1, 2);
            due("best", x.best(), 2 + 4 + 12);
            ordered(x, 1, 0, 2);
            x.woven(12);
            met(x, 2, 4, 12);
            x.sameAs(2, 8);
            due("best", x.best(), 1 + 2 + 4);
            ordered(x, 2, 1, 0);
            x.lessThan(0, 2);
            due("best", x.best(), 3);
            ordered(x, 0, 1, 2);
            x.not(1).told(7);
            due("best of no meetings", x.best(), 0);
            ordered(x, 0, 1, 2);
        });
        test(at, "THE ORDER by which MEETINGS at all NAMES are fewest together", () -> {
            Loom x = new Loom().numbers(0, 3).with(1, 2, r(0, 0), r(0, 1), r(1, 2)).asked(4);
            x.has(0, 3).has(1, 1, 0).has(0, 2).less(2, 0);
            due("best of four names", x.best(), 2 + 3 + 3 + 9);
            ordered(x, 1, 0, 2, 3);
            x.woven(9);
            met(x, 2, 3, 3, 9);
            x.asked(1).has(0, 0);
            due("best of one name", x.best(), 3);
            ordered(x, 0);
        });
        test(at, "(of those that are not TOO MANY;", () -> {
            Loom x = new Loom().numbers(0, 25).numbers(1, 21).asked(3).has(0, 0).has(1, 1).has(1, 2);
            x.same(0, 2).sameAs(1, 4);
            due("best", x.best(), 1 + 21 + 21);
            x.asked(3).has(0, 0).has(1, 1).has(0, 2).same(0, 2).same(1, 2);
            due("best with 525 by some orders", x.best(), 21 + 21 + 21);
            ordered(x, 1, 2, 0);
            x.asked(2).has(0, 0).has(0, 1).same(0, 1).woven(25);
            due("best of two", x.best(), 50);
        });
        test(at, "(of those that are not TOO MANY;", () -> {
            Loom x = new Loom().numbers(0, 25).numbers(1, 20).asked(2).has(0, 0).has(1, 1);
            due("best of 500 at the last name", x.best(), 520);
            ordered(x, 1, 0);
            x.more(0, r(99)).less(0, r(0)).numbers(2, 1).with(3, 2, r(4, 3)).has(3, 0, 1);
            due("best of one", x.best(), 2);
            ordered(x, 0, 1);
        });
    }

    private static void bestOfSeveral() {
        String at = "Promise 24";
        test(at, "of several the first, NAME by NAME)", () -> {
            Loom x = new Loom().numbers(0, 2).asked(4).has(0, 0).has(0, 1).has(0, 2).has(0, 3);
            x.turned(0, 3).turned(1, 2);
            due("best where all are as many", x.best(), 2 + 4 + 8 + 16);
            ordered(x, 0, 1, 2, 3);
            x.numbers(1, 1).has(1, 2);
            due("best where name 2 is fewer", x.best(), 1 + 2 + 4 + 8);
            ordered(x, 2, 0, 1, 3);
            x.asked(3).has(0, 2).has(0, 1).has(0, 0).sameAs(2, 0).sameAs(1, 0);
            due("best where names 1 and 2 are fewer", x.best(), 1 + 1 + 2);
            ordered(x, 1, 2, 0);
        });
        test(at, "becomes the QUESTION's: how many;", () -> {
            Loom x = fan().asked(3).has(0, 0, 1).has(1, 2).woven(12);
            met(x, 4, 4, 12);
            due("best", x.best(), 18);
            ordered(x, 1, 0, 2, NONE);
            met(x, 4, 4, 12);
            x.woven(12);
            met(x, 2, 4, 12);
            due("best again", x.best(), 18);
            ordered(x, 1, 0, 2, NONE);
            due("order", x.order(0, 2), true);
            ordered(x, 2, 0, 1, NONE);
        });
    }

    private static void bestRefused() {
        String at = "Promise 24";
        test(at, "-2: there is none;", () -> {
            refused("best of 529", RefusedSentences::tooMany, Loom::best, TOO_MANY);
            Loom x = new Loom().numbers(0, 23).asked(4).has(0, 2).has(0, 1).has(0, 0).has(0, 3).turned(0, 2);
            due("best", x.best(), TOO_MANY);
            x.same(0, 1);
            due("best of 23 times 23 times 23", x.best(), TOO_MANY);
            ordered(x, 2, 1, 0, 3);
            x.same(1, 2);
            due("best of 23 times 23", x.best(), TOO_MANY);
            x.sameAs(3, 5);
            due("best of 23", x.best(), 1 + 23 + 23 + 23);
            ordered(x, 3, 0, 1, 2);
        });
        test(at, "-2: there is none;", () -> {
            Loom x = new Loom().with(0, 2).with(1, 2);
            for (int i = 0; i < 26; i++) {
                x.more(0, r(i, i < 22 ? 7 : 8)).more(1, r(i < 22 ? 7 : 8, i));
            }
            x.asked(3).has(0, 0, 1).has(1, 1, 2);
            due("best of 500", x.best(), 2 + 26 + 500);
            x.more(0, r(50, 9)).more(1, r(9, 50)).turned(0, 2);
            due("best of 501", x.best(), TOO_MANY);
            ordered(x, 2, 0, 1);
        });
        test(at, "NONE: it doesn't STAND,", () -> {
            refused("best without a question", RefusedSentences::tables, Loom::best, NONE);
            refused("best of names alone", RefusedSentences::asked, Loom::best, NONE);
            refused("best of a part that lacks a place", RefusedSentences::halfOpen, Loom::best, NONE);
            refused("best of a part that lacks a place for ever", RefusedSentences::compared, Loom::best, NONE);
        });
        test(at, "or has more than 4 NAMES.", () -> {
            refused("best of five names", RefusedSentences::fiveNames, Loom::best, NONE);
            Loom x = new Loom().with(0, 3, r(1, 2, 3)).asked(6).has(0, 0, 1, 2).has(0, 3, 4, 5);
            due("best of six names", x.best(), NONE);
            x.asked(4).has(0, 0, 1, 2).has(0, 1, 2, 3);
            due("best of four names", x.best(), 0);
            x.more(0, r(2, 3, 4));
            due("best of four names", x.best(), 4);
        });
        test(at, "(What was woven stays.)", () -> {
            Loom x = RefusedSentences.kept();
            due("best", x.best() >= 0, true);
            answers(x, r(2, 1), r(2, 4), r(3, NO));
            met(x, 3, 3, NONE);
            due("witness", x.witness(2, 0), 4);
            due("delta(0)", x.delta(0), 1);
            due("keep", x.keep(), 3);
            Loom y = new Loom().numbers(0, 3).asked(1).has(0, 0);
            due("best where nothing was woven", y.best(), 3);
            due("count(2)", y.count(2), NONE);
            due("meetings", y.meetings(0), NONE);
            due("answer", y.answer(1, 0), 0);
        });
    }
}
