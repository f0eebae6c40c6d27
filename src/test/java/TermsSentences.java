/** The sentences of "What it is" and "Terms". */
final class TermsSentences extends Sentences {
    private TermsSentences() {
    }

    static void all() {
        use();
        tables();
        values();
        questions();
        parts();
        standing();
        answering();
        meetingFacts();
        meetingComparisons();
        weaving();
        bounds();
        covers();
        rings();
        memory();
    }

    private static void use() {
        String at = "What it is";
        test(at, "An object is used for at most 512 calls after it has been made;", () -> {
            Loom x = new Loom().numbers(0, 40).asked(1).has(0, 0);
            while (x.callsLeft() > 2) {
                due("drop", x.drop(0, 7, 0, 0), true);
                due("put", x.put(0, 7, 0, 0), 1);
            }
            if (x.callsLeft() == 2) {
                due("rows", x.rows(0), 40);
            }
            due("weave as the 512th call", x.weave(), 40);
        });
        test(at, "what later calls answer is free.", () -> {
            JoinLoom x = new JoinLoom();
            for (int i = 0; i < 20000; i++) {
                x.table(i & 7, 1 + i % 3);
                x.put(i & 7, i, -i, NO);
                x.ask(1 + i % 6);
                x.part(i & 1, i & 7);
                x.name(i % 6);
                x.value(i);
                x.compare(2 + (i & 1), i % 6, (i & 4) != 0, i % 5);
                x.weave();
                x.keep();
                x.best();
            }
            due("calls that end", 1, 1);
        });
    }

    private static void tables() {
        String at = "Terms 1";
        test(at, "TABLES 0 to 7,", () -> {
            Loom x = new Loom();
            for (int t = 0; t < 8; t++) {
                due("table " + t, x.table(t, 1), true);
                due("put", x.put(t, 10 * t, 0, 0), 1);
            }
            for (int t = 0; t < 8; t++) {
                tableHas(x, t, 1, r(10 * t));
            }
            for (int t : new int[] {-1, 8, 9, NO, MAX}) {
                due("table " + t, x.table(t, 1), false);
                due("put", x.put(t, 1, 1, 1), NONE);
                due("rows", x.rows(t), NONE);
            }
        });
        test(at, "each of 1 to 3 COLUMNS", () -> {
            Loom x = new Loom();
            for (int columns = 1; columns <= 3; columns++) {
                due(columns + " columns", x.table(columns, columns), true);
                due("put", x.put(columns, 7, 8, 9), 1);
                for (int c = 0; c < 4; c++) {
                    due("row", x.row(columns, 0, c), c < columns ? 7 + c : 0);
                }
            }
            due("no columns", x.table(4, 0), false);
            due("4 columns", x.table(4, 4), false);
        });
        test(at, "and at most 40 ROWS,", () -> {
            for (int columns = 1; columns <= 3; columns++) {
                Loom x = new Loom().with(0, columns);
                for (int i = 0; i < 40; i++) {
                    due("put of row " + i, x.put(0, 39 - i, i, 1), 1);
                }
                due("a 41st row", x.put(0, 50, 50, 50), NONE);
                due("a 41st row in front", x.put(0, -50, 50, 50), NONE);
                due("rows", x.rows(0), 40);
                due("the first", x.row(0, 0, 0), 0);
                due("the last", x.row(0, 39, 0), 39);
                due("behind the last", x.row(0, 40, 0), 0);
            }
        });
        test(at, "no two alike.", () -> {
            Loom x = new Loom().with(0, 1, r(4)).with(1, 2, r(4, 5)).with(2, 3, r(4, 5, 6));
            due("put of one", x.put(0, 4, 0, 0), 0);
            due("put of two", x.put(1, 4, 5, 0), 0);
            due("put of three", x.put(2, 4, 5, 6), 0);
            due("another first", x.put(2, 3, 5, 6), 1);
            due("another second", x.put(2, 4, 4, 6), 1);
            due("another third", x.put(2, 4, 5, 5), 1);
            due("rows(0)", x.rows(0), 1);
            due("rows(1)", x.rows(1), 1);
            tableHas(x, 2, 3, r(3, 5, 6), r(4, 4, 6), r(4, 5, 5), r(4, 5, 6));
        });
        test(at, "ROWS are ordered by their first VALUES, then second, third.", () -> {
            Loom x = new Loom().with(0, 3, r(2, 1, 1), r(1, 2, 2), r(1, 2, 1), r(1, 1, 9), r(2, 0, 9), r(1, 1, 3));
            tableHas(x, 0, 3, r(1, 1, 3), r(1, 1, 9), r(1, 2, 1), r(1, 2, 2), r(2, 0, 9), r(2, 1, 1));
            x.with(1, 2, r(5, 1), r(4, 2), r(5, 0), r(4, 3));
            tableHas(x, 1, 2, r(4, 2), r(4, 3), r(5, 0), r(5, 1));
        });
    }

    private static void values() {
        String at = "Terms 1";
        test(at, "A VALUE is an int;", () -> {
            Loom x = new Loom().with(0, 3, r(MAX, NO + 1, 0), r(-1, 1, MAX - 1), r(NO + 1, MAX, -1));
            tableHas(x, 0, 3, r(NO + 1, MAX, -1), r(-1, 1, MAX - 1), r(MAX, NO + 1, 0));
            x.asked(1).has(0).told(NO + 1, MAX);
            due("a name behind told values", x.name(0), 3);
            x.woven(1);
            answers(x, r(-1));
        });
        test(at, "the least int is NO NUMBER, a VALUE of its own", () -> {
            Loom x = new Loom().with(0, 1, r(NO), r(NO + 1)).asked(1).has(0, 0).woven(2);
            due("numbers", x.sum(0, 1), 1);
            due("values", x.sum(0, 4), 2);
            due("the least number", x.sum(0, 3), NO + 1);
            due("the sum", x.sum(0, 0), NO + 1);
        });
        test(at, "that is ordered behind all others", () -> {
            Loom x = new Loom().with(0, 2, r(NO, 5), r(MAX, 5), r(NO + 1, 5), r(0, NO), r(0, MAX), r(0, NO + 1));
            tableHas(x, 0, 2, r(NO + 1, 5), r(0, NO + 1), r(0, MAX), r(0, NO), r(MAX, 5), r(NO, 5));
            x.with(1, 3, r(0, 0, NO), r(0, 0, MAX), r(0, 0, NO + 1));
            tableHas(x, 1, 3, r(0, 0, NO + 1), r(0, 0, MAX), r(0, 0, NO));
            x.with(2, 1, r(NO), r(MAX), r(NO + 1)).asked(2).has(2, 0).has(2, 1).less(0, 1).woven(3);
            answers(x, r(NO + 1, MAX), r(NO + 1, NO), r(MAX, NO));
            x.lessThan(1, NO).woven(1);
            answers(x, r(NO + 1, MAX));
            x.lessThan(1, NO + 1).woven(0);
        });
        test(at, "(like itself alone)", () -> {
            Loom x = new Loom().with(0, 1, r(NO), r(MAX), r(NO + 1), r(0)).with(1, 1, r(NO), r(1));
            x.asked(1).has(0, 0).has(1, 0).woven(1);
            answers(x, r(NO));
            x.asked(2).has(0, 0).has(0, 1).same(0, 1).sameAs(0, NO).woven(1);
            answers(x, r(NO, NO));
            x.asked(1).has(0, 0).sameAs(0, NO + 1).woven(1);
            answers(x, r(NO + 1));
            x.asked(1).has(0, 0).lessThan(0, NO).woven(3);
        });
    }

    private static void questions() {
        String at = "Terms 2";
        test(at, "A QUESTION has NAMES 0 to n - 1 (n 1 to 6)", () -> {
            for (int n = 1; n <= 6; n++) {
                Loom x = new Loom().with(0, 1, r(3));
                due("ask(" + n + ")", x.ask(n), true);
                for (int k = 0; k < n; k++) {
                    x.part(k < 5 ? HAS : NOT, 0);
                    due("name " + k, x.name(k), 1);
                }
                x.part(NOT, 0);
                due("name " + n, x.name(n), NONE);
                due("name -1", x.name(-1), NONE);
                due("count(0)", x.count(0), n);
            }
            due("ask(0)", new Loom().ask(0), false);
            due("ask(7)", new Loom().ask(7), false);
        });
        test(at, "and PARTS in their order, 10 at most:", () -> {
            Loom x = new Loom().with(0, 1, r(3)).asked(1);
            for (int p = 0; p < 10; p++) {
                int got = p % 2 == 0 ? x.part(p % 4 == 0 ? HAS : NOT, 0) : x.compare(SAME, 0, false, 3);
                due("part " + p, got, p);
                x.name(0);
            }
            due("an eleventh HAS", x.part(HAS, 0), NONE);
            due("an eleventh NOT", x.part(NOT, 0), NONE);
            due("an eleventh SAME", x.compare(SAME, 0, false, 3), NONE);
            due("an eleventh LESS", x.compare(LESS, 0, true, 0), NONE);
            due("count(1)", x.count(1), 10);
        });
        test(at, "0 HAS: a TABLE, with a NAME or a told VALUE in the place of each COLUMN (5 at most).", () -> {
            Loom x = new Loom().with(0, 3, r(1, 2, 3), r(4, 2, 4), r(5, 5, 5)).asked(1);
            for (int p = 0; p < 5; p++) {
                due("HAS " + p, x.part(HAS, 0), p);
                due("a name", x.name(0), 1);
                due("a told value", x.value(2), 2);
                due("a name again", x.name(0), 3);
            }
            due("a sixth HAS", x.part(HAS, 0), NONE);
            due("count(1)", x.count(1), 5);
            x.woven(1);
            answers(x, r(4));
        });
    }

    private static void parts() {
        String at = "Terms 2";
        test(at, "1 NOT, likewise.", () -> {
            Loom x = new Loom().with(0, 2, r(1, 1), r(1, 2), r(2, 2)).with(1, 1, r(1), r(2)).asked(1).has(1, 0);
            due("NOT", x.part(NOT, 0), 1);
            due("a name", x.name(0), 1);
            due("a told value", x.value(1), 2);
            due("a third place", x.name(0), NONE);
            x.woven(1);
            answers(x, r(2));
        });
        test(at, "2 SAME, 3 LESS: a NAME, and a NAME or told VALUE.", () -> {
            Loom x = new Loom().numbers(0, 4).asked(2).has(0, 0).has(0, 1);
            due("LESS of names", x.compare(LESS, 0, true, 1), 2);
            x.woven(6);
            due("SAME with a value", x.compare(SAME, 1, false, 2), 3);
            x.woven(2);
            due("LESS with a value", x.compare(LESS, 0, false, 1), 4);
            x.woven(1);
            answers(x, r(0, 2));
            due("SAME of names", x.compare(SAME, 0, true, 1), 5);
            x.woven(0);
        });
        test(at, "A row of VALUES for NAMES makes HAS true if the TABLE has the ROW that they and the told VALUES are;",
                () -> {
            Loom x = new Loom().with(0, 3, r(1, 7, 2), r(1, 8, 2), r(2, 7, 1), r(2, 7, 9)).asked(2).has(0);
            due("a name", x.name(1), 1);
            due("a told value", x.value(7), 2);
            due("a name", x.name(0), 3);
            x.woven(3);
            answers(x, r(1, 2), r(2, 1), r(9, 2));
        });
        test(at, "NOT if it has it not;", () -> {
            Loom x = new Loom().numbers(0, 3).with(1, 2, r(0, 1), r(2, 2)).asked(2).has(0, 0).has(0, 1);
            x.not(1, 1, 0).woven(7);
            answers(x, r(0, 0), r(0, 1), r(0, 2), r(1, 1), r(1, 2), r(2, 0), r(2, 1));
            x.with(2, 1).not(2, 0).woven(7);
        });
        test(at, "SAME if both are alike;", () -> {
            Loom x = new Loom().with(0, 1, r(3), r(4)).with(1, 1, r(4), r(5)).asked(2).has(0, 0).has(1, 1);
            x.same(0, 1).woven(1);
            answers(x, r(4, 4));
            x.same(1, 1).woven(1);
            x.sameAs(0, 4).woven(1);
            x.sameAs(1, 5).woven(0);
        });
        test(at, "LESS if the first is ordered ahead of the other.", () -> {
            Loom x = new Loom().with(0, 1, r(3), r(4)).with(1, 1, r(3), r(4)).asked(2).has(0, 0).has(1, 1);
            x.less(1, 0).woven(1);
            answers(x, r(4, 3));
            x.lessThan(0, 5).woven(1);
            x.lessThan(0, 4).woven(0);
            x.asked(1).has(0, 0).less(0, 0).woven(0);
        });
    }

    private static void standing() {
        String at = "Terms 2";
        test(at, "IT STANDS if each NAME is in a HAS,", () -> {
            Loom x = new Loom().numbers(0, 3).with(1, 2, r(1, 2)).asked(3);
            due("without a part", x.count(4), 0);
            x.has(0, 0).has(0, 2);
            due("with name 1 in no part", x.count(4), 0);
            x.not(0, 1);
            due("with name 1 in a NOT", x.count(4), 0);
            x.same(1, 0).less(0, 1);
            due("with name 1 in a SAME and a LESS", x.count(4), 0);
            x.has(1, 2, 1);
            due("with name 1 in a HAS", x.count(4), 1);
        });
        test(at, "and each HAS and NOT has as many places as its TABLE has COLUMNS.", () -> {
            Loom x = new Loom().numbers(0, 3).with(1, 3, r(1, 2, 3)).asked(1).has(0, 0);
            due("with a HAS", x.count(4), 1);
            x.has(1);
            due("with a HAS without places", x.count(4), 0);
            x.told(1, 2);
            due("with a HAS that lacks one place", x.count(4), 0);
            x.told(3);
            due("with a HAS that is whole", x.count(4), 1);
            x.not(1).told(1);
            due("with a NOT that lacks two places", x.count(4), 0);
            due("a SAME behind it", x.compare(SAME, 0, true, 0) >= 0, true);
            due("with a NOT that lacks two places for ever", x.count(4), 0);
        });
    }

    private static void answering() {
        String at = "Terms 2";
        test(at, "ANSWERS are all rows of VALUES for NAMES 0 to n - 1 that make each PART true,", () -> {
            Loom x = new Loom().with(0, 2, r(1, 2), r(1, 3), r(2, 3), r(3, 1)).with(1, 2, r(1, 3), r(3, 1));
            x.asked(3).has(0, 0, 1).has(0, 1, 2).not(1, 0, 2).woven(4);
            answers(x, r(1, 3, 1), r(2, 3, 1), r(3, 1, 2), r(3, 1, 3));
        });
        test(at, "each once,", () -> {
            Loom x = new Loom().with(0, 1, r(1), r(2)).with(1, 2, r(1, 5), r(1, 6), r(2, 5));
            x.asked(2).has(0, 0).has(0, 0).has(1, 0, 1).has(1, 0, 1).woven(3);
            answers(x, r(1, 5), r(1, 6), r(2, 5));
            x.asked(1).has(0, 0).has(0, 0).same(0, 0).woven(2);
            answers(x, r(1), r(2));
        });
        test(at, "ordered by NAME 0's VALUE, then NAME 1's, and so on.", () -> {
            Loom x = new Loom().with(0, 3, r(1, 9, 4), r(2, 3, 4), r(2, 9, NO), r(3, 3, 4), r(NO, 9, 4));
            x.asked(3).has(0, 2, 0, 1).turned(0, 2).woven(5);
            answers(x, r(3, 4, 2), r(3, 4, 3), r(9, 4, 1), r(9, 4, NO), r(9, NO, 2));
        });
        test(at, "ordered by NAME 0's VALUE, then NAME 1's, and so on.", () -> {
            Loom x = new Loom().with(0, 3, r(1, 1, 1), r(1, 1, 2), r(1, 2, 1), r(2, 1, 1)).asked(6);
            x.has(0, 0, 1, 2).has(0, 3, 4, 5).woven(16);
            int[][] rows = {r(1, 1, 1), r(1, 1, 2), r(1, 2, 1), r(2, 1, 1)};
            for (int i = 0; i < 16; i++) {
                for (int k = 0; k < 6; k++) {
                    int due = k < 3 ? rows[i / 4][k] : rows[i % 4][k - 3];
                    due("answer(" + i + ", " + k + ")", x.answer(i, k), due);
                }
            }
        });
        test(at, "THE ORDER is a row of all NAMES.", () -> {
            Loom x = new Loom().asked(6);
            x.turned(0, 5).turned(1, 5).turned(4, 0).turned(3, 3).turned(5, 5).turned(2, 1);
            int seen = 0;
            for (int i = 0; i < 6; i++) {
                seen |= 1 << x.count(10 + i);
            }
            due("the names of THE ORDER", seen, 63);
        });
    }

    private static void meetingFacts() {
        String at = "Terms 2";
        test(at, "MEETINGS at its i-th NAME (from 0): all rows of VALUES for its first i + 1 NAMES with which,", () -> {
            Loom x = new Loom().with(0, 2, r(1, 5), r(1, 6), r(1, 7), r(2, 7)).asked(2).has(0, 0, 1).woven(4);
            met(x, 2, 4, NONE);
            x.turned(0, 1).woven(4);
            met(x, 3, 4, NONE);
        });
        test(at, "for each HAS that has one of these NAMES", () -> {
            Loom x = new Loom().numbers(0, 4).with(1, 2, r(2, 5), r(3, 5), r(8, 5)).with(2, 1);
            x.asked(2).has(0, 0).has(1, 0, 1).woven(2);
            met(x, 2, 2);
            x.has(2, 1).woven(0);
            met(x, 2, 0);
        });
        test(at, "for each HAS that has one of these NAMES", () -> {
            Loom x = new Loom().with(0, 1, r(2), r(9)).with(1, 2, r(2, 5), r(3, 5), r(8, 6)).with(2, 1, r(5), r(6),
                    r(7));
            x.asked(2).has(0, 0).has(1, 0, 1).has(2, 1).woven(1);
            met(x, 1, 1);
            x.turned(0, 1).woven(1);
            met(x, 2, 1);
            x.less(0, r(2)).woven(0);
            met(x, 2, 0);
        });
        test(at, "or none at all,", () -> {
            Loom x = new Loom().numbers(0, 4).with(1, 2, r(2, 5)).asked(1).has(0, 0).has(1).told(2, 5).woven(4);
            met(x, 4);
            x.has(1).told(5, 2).woven(0);
            met(x, 0);
        });
        test(at, "its TABLE has some ROW that has one VALUE wherever one NAME stands,", () -> {
            Loom x = new Loom().with(0, 3, r(1, 5, 5), r(2, 5, 6), r(3, 6, 5), r(4, 6, 6));
            x.asked(2).has(0, 0, 1, 1).woven(2);
            met(x, 2, 2);
            answers(x, r(1, 5), r(4, 6));
            x.turned(0, 1).woven(2);
            met(x, 2, 2);
            x.with(2, 1, r(2), r(4)).has(2, 0).turned(0, 0).woven(1);
            met(x, 1, 1);
            answers(x, r(4, 6));
            x.with(1, 3, r(1, 1, 2), r(2, 2, 2), r(3, 4, 3)).asked(1).has(1, 0, 0, 0).woven(1);
            met(x, 1);
            answers(x, r(2));
        });
        test(at, "and agrees (in the places of these NAMES and of told VALUES),", () -> {
            Loom x = new Loom().with(0, 3, r(1, 7, 4), r(1, 7, 5), r(2, 8, 4), r(3, 7, 4)).asked(2).has(0);
            due("a name", x.name(0), 1);
            x.told(7);
            due("a name", x.name(1), 3);
            x.woven(3);
            met(x, 2, 3);
            x.turned(0, 1).woven(3);
            met(x, 2, 3);
            x.with(1, 1, r(2), r(3)).has(1, 0).turned(0, 0).woven(1);
            met(x, 1, 1);
            answers(x, r(3, 4));
        });
        test(at, "and each NOT likewise, is true.", () -> {
            Loom x = new Loom().numbers(0, 3).with(1, 2, r(0, 0), r(0, 1), r(0, 2), r(1, 1)).with(2, 1, r(2));
            x.asked(2).has(0, 0).has(0, 1).not(1, 0, 1).woven(5);
            met(x, 3, 5);
            x.not(2, 0).woven(2);
            met(x, 2, 2);
            answers(x, r(1, 0), r(1, 2));
            x.not(2, 1).woven(1);
            met(x, 2, 1);
            x.not(1, 1, 1).woven(0);
            met(x, 2, 0);
            x.asked(2).has(0, 0).has(0, 1).not(1).told(5, 5).woven(9);
            met(x, 3, 9);
            x.not(2).told(2).woven(0);
            met(x, 0, 0);
        });
    }

    private static void meetingComparisons() {
        String at = "Terms 2";
        test(at, "and each SAME and LESS all of whose NAMES are among these,", () -> {
            Loom x = new Loom().numbers(0, 4).asked(2).has(0, 0).has(0, 1).same(0, 1).woven(4);
            met(x, 4, 4);
            x.lessThan(1, 2).woven(2);
            met(x, 4, 2);
            x.turned(0, 1).woven(2);
            met(x, 2, 2);
            x.asked(2).has(0, 0).has(0, 1).less(1, 0).woven(6);
            met(x, 4, 6);
            x.sameAs(0, 3).woven(3);
            met(x, 1, 3);
            x.less(1, 1).woven(0);
            met(x, 1, 0);
            x.turned(0, 1).woven(0);
            met(x, 0, 0);
        });
    }

    /** Rows of tables 0 and 1 that meet in so many ways over 22 times 22, 4 times 4 and some more. */
    private static Loom pairs(int more) {
        Loom x = new Loom().with(0, 2).with(1, 2);
        for (int i = 0; i < 26; i++) {
            x.more(0, r(i, i < 22 ? 7 : 8)).more(1, r(i < 22 ? 7 : 8, i));
        }
        for (int i = 0; i < more; i++) {
            x.more(0, r(50 + i, 9 + i)).more(1, r(9 + i, 50));
        }
        return x;
    }

    private static void weaving() {
        String at = "Terms 2";
        String words = "TO WEAVE: for i from 0 on, MEETINGS at the i-th NAME,"
                + " till there are more than 500: then it is TOO MANY.";
        test(at, words, () -> {
            Loom x = pairs(0).asked(3).has(0, 0, 1).has(1, 1, 2).woven(500);
            met(x, 26, 26, 500);
            due("the last answer", x.answer(499, 2), 25);
            due("behind the last answer", x.answer(500, 2), 0);
        });
        test(at, words, () -> {
            Loom x = pairs(1).asked(3).has(0, 0, 1).has(1, 1, 2);
            due("weave of 501", x.weave(), TOO_MANY);
            x.turned(0, 2);
            due("weave of 501 from the other end", x.weave(), TOO_MANY);
        });
        test(at, words, () -> {
            Loom x = pairs(0).with(2, 1, r(3)).asked(4).has(0, 0, 1).has(1, 1, 2).has(2, 3).same(3, 0).woven(22);
            met(x, 26, 26, 500, 22);
        });
        test(at, words, () -> {
            Loom x = pairs(1).with(2, 1, r(3)).asked(4).has(0, 0, 1).has(1, 1, 2).has(2, 3).same(3, 0);
            due("weave of 501 on the way", x.weave(), TOO_MANY);
            x.turned(0, 3).woven(22);
            met(x, 1, 3, 27, 22);
        });
        test(at, "(Those at the last one are ANSWERS, in another order.)", () -> {
            Loom x = new Loom().with(0, 2, r(1, 9), r(2, 8), r(3, 7)).asked(2).has(0, 0, 1).woven(3);
            met(x, 3, 3);
            answers(x, r(1, 9), r(2, 8), r(3, 7));
            x.turned(0, 1).woven(3);
            met(x, 3, 3);
            answers(x, r(1, 9), r(2, 8), r(3, 7));
        });
    }

    private static void bounds() {
        String at = "Terms 3";
        test(at, "THE BOUND: to each HAS that has a NAME a SHARE is given, 0, 1 or 2 halves,", () -> {
            Loom x = new Loom().numbers(0, 3).numbers(1, 5).with(2, 1).asked(1).has(0, 0);
            due("bound", x.bound(), 9);
            x.not(2, 0).has(1).told(77).has(2).told(0).same(0, 0);
            due("bound with a NOT and HAS without a name", x.bound(), 9);
            covered(x, 2, NONE, NONE, NONE, NONE);
        });
        test(at, "so that for each NAME those of HAS that have it are 2 halves or more together.", () -> {
            Loom x = new Loom().with(0, 2, r(1, 2), r(2, 3), r(3, 1)).asked(3).has(0, 0, 1).has(0, 1, 2);
            due("bound of a path", x.bound(), 81);
            covered(x, 2, 2);
            x.has(0, 2, 0);
            due("bound of three round", x.bound(), 27);
            covered(x, 1, 1, 1);
            x.asked(1).has(0, 0, 0);
            due("bound with a name twice in one HAS", x.bound(), 9);
            covered(x, 2);
        });
        test(at, "THE PRODUCT is over these HAS the SIZE by the SHARE (0: 1; 1: SIZE; 2: SIZE times SIZE),", () -> {
            Loom x = new Loom().numbers(0, 40).numbers(1, 3).asked(1).has(0, 0).has(1, 0);
            due("shares 0 and 2", x.bound(), 9);
            x.with(2, 2, r(1, 2), r(2, 1)).with(3, 2, r(1, 1), r(2, 2), r(3, 3));
            x.with(4, 2, r(1, 1), r(2, 2), r(3, 3), r(4, 4), r(5, 5));
            x.asked(3).has(2, 0, 1).has(3, 1, 2).has(4, 2, 0);
            due("shares 1, 1 and 1", x.bound(), 30);
            x.asked(5);
            for (int k = 0; k < 5; k++) {
                x.has(0, k);
            }
            due("shares of 2, five of them, of 40", x.bound(), 10485760000000000L);
        });
        test(at, "SIZE being how many ROWS its TABLE has.", () -> {
            Loom x = new Loom().with(0, 1).asked(1).has(0, 0);
            due("no rows", x.bound(), 0);
            x.more(0, r(5));
            due("a row", x.bound(), 1);
            x.more(0, r(6));
            due("two rows", x.bound(), 4);
            due("a row that is there", x.put(0, 6, 0, 0), 0);
            due("two rows", x.bound(), 4);
            x.less(0, r(5));
            due("a row again", x.bound(), 1);
        });
        test(at, "THE BOUND is the least PRODUCT;", () -> {
            Loom x = new Loom().with(0, 2, r(1, 1)).with(1, 2, r(1, 1), r(2, 2)).with(2, 2);
            for (int i = 0; i < 40; i++) {
                x.more(2, r(i, i));
            }
            x.asked(3).has(0, 0, 1).has(1, 1, 2).has(2, 2, 0);
            due("bound", x.bound(), 4);
            covered(x, 2, 2, 0);
        });
        test(at, "How many ANSWERS there are, times itself, is never above it.", () -> {
            Loom x = new Loom().numbers(0, 25).numbers(1, 20).asked(2).has(0, 0).has(1, 1).woven(500);
            due("bound", x.bound(), 250000);
            x.same(0, 1).woven(20);
            due("bound", x.bound(), 250000);
            x.with(2, 2, r(1, 2), r(2, 3), r(3, 1), r(1, 1)).asked(3).has(2, 0, 1).has(2, 1, 2).has(2, 2, 0).woven(4);
            due("bound", x.bound(), 64);
        });
    }

    private static void covers() {
        String at = "Terms 3";
        test(at, "THE COVER the SHARES that give it, of several the least, PART by PART.", () -> {
            Loom x = new Loom().numbers(0, 4).with(1, 1, r(7)).asked(1).has(0, 0).has(0, 0).has(0, 0);
            covered(x, 0, 0, 2);
            x.has(1, 0);
            covered(x, 0, 0, 0, 2);
            x.has(1, 0);
            covered(x, 0, 0, 0, 0, 2);
        });
        test(at, "THE COVER the SHARES that give it, of several the least, PART by PART.", () -> {
            Loom x = new Loom().with(0, 1, r(7)).with(1, 2, r(1, 1), r(2, 2));
            x.asked(2).has(1, 0, 1).has(0, 0).has(0, 1);
            covered(x, 0, 2, 2);
            x.asked(2).has(0, 0).has(1, 0, 1).has(1, 0, 1);
            covered(x, 0, 0, 2);
            x.asked(3).has(1, 0, 1).has(1, 1, 2).has(1, 2, 0).has(1, 0, 1).has(1, 1, 2);
            covered(x, 0, 0, 1, 1, 1);
        });
        test(at, "THE COVER the SHARES that give it, of several the least, PART by PART.", () -> {
            Loom x = new Loom().with(0, 1).numbers(1, 3).asked(1).has(0, 0).has(1, 0);
            due("bound with an empty table", x.bound(), 0);
            covered(x, 1, 1);
            x.asked(1).has(1, 0).has(0, 0);
            covered(x, 0, 2);
            x.asked(1).has(0, 0).has(0, 0);
            covered(x, 0, 2);
        });
    }

    private static void rings() {
        String at = "Terms 3";
        test(at, "A RING of a TABLE of two or three COLUMNS:", () -> {
            Loom x = new Loom().numbers(0, 5).with(1, 2, r(1, 2), r(2, 3), r(3, 1));
            x.with(2, 3, r(1, 2, 9), r(2, 3, 9), r(3, 1, 9));
            due("rings of one column", x.rings(0), NONE);
            ringed(x, 1, r(1, 2, 3));
            ringed(x, 2, r(1, 2, 3));
        });
        test(at, "three different VALUES a, b, c", () -> {
            Loom x = new Loom().with(0, 2, r(1, 1), r(2, 2), r(1, 2), r(2, 1));
            ringed(x, 0);
            x.more(0, r(2, 3), r(3, 3), r(3, 1));
            ringed(x, 0, r(1, 2, 3));
        });
        test(at, "with ROWS that begin a b, b c and c a;", () -> {
            int[][] rows = {r(1, 2, 4), r(2, 3, 5), r(3, 1, 6)};
            for (int left = 0; left < 3; left++) {
                Loom x = new Loom().with(0, 3, rows);
                ringed(x, 0, r(1, 2, 3));
                x.less(0, rows[left]);
                ringed(x, 0);
                x.more(0, r(rows[left][1], rows[left][0], 7));
                ringed(x, 0);
            }
        });
        test(at, "with ROWS that begin a b, b c and c a;", () -> {
            Loom x = new Loom().with(0, 2, r(1, 2), r(2, 3), r(3, 5), r(4, 1));
            ringed(x, 0);
            x.with(1, 2, r(1, 2), r(2, 3), r(4, 1), r(3, 1));
            ringed(x, 1, r(1, 2, 3));
        });
        test(at, "a is ordered ahead of b and c.", () -> {
            Loom x = new Loom().with(0, 2, r(5, 4), r(4, NO), r(NO, 5));
            ringed(x, 0, r(4, NO, 5));
            x.with(1, 2, r(NO, MAX), r(MAX, NO + 1), r(NO + 1, NO));
            ringed(x, 1, r(NO + 1, NO, MAX));
        });
        test(at, "(So each ring of three is told once in each of its two ways round, if both are there.)", () -> {
            Loom x = new Loom().with(0, 2, r(1, 2), r(2, 3), r(3, 1));
            ringed(x, 0, r(1, 2, 3));
            x.more(0, r(1, 3), r(3, 2), r(2, 1));
            ringed(x, 0, r(1, 2, 3), r(1, 3, 2));
            x.with(1, 3, r(1, 2, 0), r(1, 2, 1), r(2, 3, 0), r(2, 3, 1), r(2, 3, 2), r(3, 1, 0), r(3, 1, 1));
            ringed(x, 1, r(1, 2, 3));
        });
    }

    private static void memory() {
        String at = "Terms 3";
        test(at, "All memory is the loom's own.", () -> {
            Loom x = new Loom().with(0, 1, r(1), r(2)).asked(1).has(0, 0).woven(2).kept(2);
            Loom y = new Loom();
            due("the other loom", y.rows(0), NONE);
            due("the other loom", y.count(0), 0);
            due("the other loom", y.count(2), NONE);
            due("the other loom", y.count(3), NONE);
            y.with(0, 2, r(7, 8)).asked(2).has(0, 1, 0).turned(0, 1).woven(1).kept(1);
            tableHas(x, 0, 1, r(1), r(2));
            answers(x, r(1), r(2));
            due("count(0)", x.count(0), 1);
            due("count(3)", x.count(3), 2);
            due("count(10)", x.count(10), 0);
            answers(y, r(8, 7));
        });
        test(at, "The constants:", () -> {
            due("how many constants", JoinLoom.class.getFields().length, 2);
        });
        test(at, "There is none.", () -> due("NONE", JoinLoom.NONE, -1));
        test(at, "NO NUMBER.", () -> due("NO", JoinLoom.NO, -2147483648L));
    }
}
