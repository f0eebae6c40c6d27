/** "A call that is refused (NONE, false) changes nothing.": the scenes in which calls are refused, and the calls. */
final class RefusedSentences extends Sentences {
    private static final String AT = "Terms 3";
    private static final String WORDS = "A call that is refused (NONE, false) changes nothing.";

    private RefusedSentences() {
    }

    /** Tables of two, one and two columns, and no question. */
    static Loom tables() {
        return new Loom().with(0, 2, r(1, 1), r(1, 2), r(2, 1), r(3, NO)).with(1, 1, r(2), r(3))
                .with(2, 2, r(1, 2), r(2, 3), r(3, 1));
    }

    /** A question that was woven and kept, and woven again when a row had come and another had gone. */
    static Loom kept() {
        return tables().asked(2).has(0, 0, 1).not(1, 1).turned(0, 1).woven(3).kept(3)
                .more(0, r(2, 2), r(2, 4)).less(0, r(1, 1)).woven(3).more(0, r(3, 3), r(3, 5));
    }

    /** As before, with a table that is full. */
    static Loom full() {
        return kept().numbers(2, 40);
    }

    /** As kept, with another question, whose last part, a HAS of two places, lacks both. */
    static Loom open() {
        return kept().asked(1).has(1, 0).has(0);
    }

    /** As kept, with another question, whose last part lacks one place. */
    static Loom halfOpen() {
        return kept().asked(2).has(0, 0, 1).has(0, 1);
    }

    /** As kept, with another question, whose last part compares, behind one that lacks a place for ever. */
    static Loom compared() {
        return kept().asked(2).has(0, 0, 1).has(0, 0).lessThan(1, 3);
    }

    /** As kept, with another question of names alone. */
    static Loom asked() {
        return kept().asked(2);
    }

    /** As kept, with another question, which has five HAS. */
    static Loom fiveHas() {
        return kept().asked(2).has(0, 0, 1).has(0, 0, 1).has(0, 0, 1).has(0, 0, 1).has(0, 0, 1);
    }

    /** As kept, with another question, which has ten parts. */
    static Loom tenParts() {
        return kept().asked(2).has(0, 0, 1).lessThan(0, 9).lessThan(0, 9).lessThan(0, 9).lessThan(0, 9)
                .lessThan(0, 9).lessThan(0, 9).lessThan(0, 9).lessThan(0, 9).not(1, 0);
    }

    /** As kept, with another question of meetings too many. */
    static Loom tooMany() {
        return kept().numbers(3, 23).asked(2).has(3, 1).has(3, 0).turned(0, 1);
    }

    /** As kept, with another question of five names. */
    static Loom fiveNames() {
        return kept().asked(5).has(0, 0, 1).has(0, 2, 3).has(1, 4).turned(0, 4);
    }

    static void all() {
        test(AT, WORDS, () -> {
            refused("weave without a question", RefusedSentences::tables, Loom::weave, NONE);
            refused("weave of what doesn't stand", RefusedSentences::halfOpen, Loom::weave, NONE);
            refused("weave of names alone", RefusedSentences::asked, Loom::weave, NONE);
            refused("best without a question", RefusedSentences::tables, Loom::best, NONE);
            refused("best of what doesn't stand", RefusedSentences::halfOpen, Loom::best, NONE);
            refused("best of five names", RefusedSentences::fiveNames, Loom::best, NONE);
            refused("keep where nothing was woven", RefusedSentences::tables, Loom::keep, NONE);
        });
        test(AT, WORDS, () -> {
            refused("delta of another what", RefusedSentences::kept, x -> x.delta(2), NONE);
            refused("delta where nothing was kept", RefusedSentences::tables, x -> x.delta(0), NONE);
            refused("bound of what doesn't stand", RefusedSentences::open, Loom::bound, NONE);
            refused("cover of what doesn't stand", RefusedSentences::open, x -> x.cover(0), NONE);
            refused("rings of one column", RefusedSentences::kept, x -> x.rings(1), NONE);
            refused("witness of none", RefusedSentences::kept, x -> x.witness(3, 0), NONE);
            refused("meetings of none", RefusedSentences::kept, x -> x.meetings(2), NONE);
            refused("count of others", RefusedSentences::kept, x -> x.count(5), NONE);
        });
        test(AT, WORDS, () -> {
            refused("table", RefusedSentences::tables, x -> bit(x.table(8, 1)), 0);
            refused("put", RefusedSentences::tables, x -> x.put(5, 1, 1, 1), NONE);
            refused("drop", RefusedSentences::tables, x -> bit(x.drop(0, 9, 9, 9)), 0);
            refused("ask", RefusedSentences::tables, x -> bit(x.ask(7)), 0);
            refused("part", RefusedSentences::tables, x -> x.part(HAS, 0), NONE);
            refused("name", RefusedSentences::tables, x -> x.name(0), NONE);
            refused("value", RefusedSentences::tables, x -> x.value(0), NONE);
            refused("compare", RefusedSentences::tables, x -> x.compare(SAME, 0, false, 0), NONE);
            refused("order", RefusedSentences::tables, x -> bit(x.order(0, 0)), 0);
        });
    }
}
