import java.io.IOException;
import java.nio.file.Files;
import java.nio.file.Path;
import java.util.LinkedHashMap;
import java.util.Map;
import java.util.function.Supplier;
import java.util.function.ToLongFunction;
import java.util.regex.Matcher;
import java.util.regex.Pattern;

/** Tests that each stand for words of the document; in the end it is told which words no test stands for. */
class Sentences {
    static final int NONE = Loom.NONE;
    static final int NO = Loom.NO;
    static final int TOO_MANY = Loom.TOO_MANY;
    static final int HAS = Loom.HAS;
    static final int NOT = Loom.NOT;
    static final int SAME = Loom.SAME;
    static final int LESS = Loom.LESS;
    static final int MAX = Integer.MAX_VALUE;

    private static final Map<String, String> SECTIONS = new LinkedHashMap<>();
    private static final Map<String, boolean[]> TOLD = new LinkedHashMap<>();
    private static String section = "";
    private static String words = "";
    private static int tests = 0;
    private static int wrong = 0;

    static int[] r(int... row) {
        return row;
    }

    static void due(String call, long got, long want) {
        if (got != want) {
            wrong++;
            System.out.println(section + ", \"" + words + "\": " + call + " answered " + got + ", due is " + want);
        }
    }

    static void due(String call, boolean got, boolean want) {
        due(call, got ? 1 : 0, want ? 1 : 0);
    }

    static void due(String what, String got, String want) {
        if (!got.equals(want)) {
            wrong++;
            System.out.println(section + ", \"" + words + "\": " + what + " is\n" + got + "\nwhere due is\n" + want);
        }
    }

    /** The answers that a loom has woven, all of them. */
    static void answers(Loom x, int[]... rows) {
        due("count(2)", x.count(2), rows.length);
        for (int i = 0; i < rows.length; i++) {
            for (int k = 0; k < rows[i].length; k++) {
                due("answer(" + i + ", " + k + ")", x.answer(i, k), rows[i][k]);
            }
        }
    }

    static void met(Loom x, int... howMany) {
        for (int i = 0; i < howMany.length; i++) {
            due("meetings(" + i + ")", x.meetings(i), howMany[i]);
        }
    }

    static void ordered(Loom x, int... names) {
        for (int i = 0; i < names.length; i++) {
            due("count(" + (10 + i) + ")", x.count(10 + i), names[i]);
        }
    }

    static void tableHas(Loom x, int t, int columns, int[]... rows) {
        due("rows(" + t + ")", x.rows(t), rows.length);
        for (int i = 0; i < rows.length; i++) {
            for (int c = 0; c < columns; c++) {
                due("row(" + t + ", " + i + ", " + c + ")", x.row(t, i, c), rows[i][c]);
            }
        }
    }

    static void covered(Loom x, int... shares) {
        for (int p = 0; p < shares.length; p++) {
            due("cover(" + p + ")", x.cover(p), shares[p]);
        }
    }

    static void ringed(Loom x, int t, int[]... rings) {
        due("rings(" + t + ")", x.rings(t), rings.length);
        for (int i = 0; i < rings.length; i++) {
            for (int k = 0; k < 3; k++) {
                due("ring(" + t + ", " + i + ", " + k + ")", x.ring(t, i, k), rings[i][k]);
            }
        }
    }

    /** A refused call changes nothing: what is told and what comes of the loom are as without the call. */
    static void refused(String call, Supplier<Loom> scene, ToLongFunction<Loom> made, long want) {
        Loom with = scene.get();
        Loom without = scene.get();
        due(call, made.applyAsLong(with), want);
        due("what is told after " + call, with.state(), without.state());
        due("what comes of it after " + call, with.future(), without.future());
        due("what is told in the end after " + call, with.state(), without.state());
    }

    static long bit(boolean b) {
        return b ? 1 : 0;
    }

    /** Runs one test, which stands for these words of the section. */
    static void test(String theSection, String theWords, Runnable body) {
        section = theSection;
        words = theWords;
        tests++;
        claim();
        try {
            body.run();
        } catch (RuntimeException thrown) {
            wrong++;
            System.out.println(section + ", \"" + words + "\": " + thrown);
        }
    }

    private static void claim() {
        String text = SECTIONS.getOrDefault(section, "");
        int from = text.indexOf(words);
        if (from < 0) {
            wrong++;
            System.out.println(section + " has no words \"" + words + "\"");
            return;
        }
        for (; from >= 0; from = text.indexOf(words, from + 1)) {
            for (int i = from; i < from + words.length(); i++) {
                TOLD.get(section)[i] = true;
            }
        }
    }

    /** Takes the document apart into what it is, three sections of terms, and the promises. */
    static void readDocument() throws IOException {
        String text = Files.readString(Path.of("../shared/DOC.md"));
        String use = "An object is used";
        add("What it is", text.substring(text.indexOf(use), text.indexOf("## The public face")));
        String terms = text.substring(text.indexOf("## Terms") + 8, text.indexOf("## Promise 1:"));
        String[] parts = terms.split("==== \\d\\.");
        for (int i = 1; i < parts.length; i++) {
            add("Terms " + i, parts[i]);
        }
        Matcher promise = Pattern.compile("## (Promise \\d+):[^\n]*\n(.*?)(?=\n## )", Pattern.DOTALL).matcher(text);
        while (promise.find()) {
            add(promise.group(1), promise.group(2));
        }
    }

    private static void add(String name, String text) {
        String bare = text.replaceAll("```\\w*", "").replaceAll("`[^`]*`:", "").replaceAll("\\s+", " ").trim();
        SECTIONS.put(name, bare);
        TOLD.put(name, new boolean[bare.length()]);
    }

    /** Words that no test stands for are wrong, and a document that wasn't read. */
    private static void tellWordsLeft() {
        if (SECTIONS.size() != 31) {
            wrong++;
            System.out.println(SECTIONS.size() + " sections of the document were found");
        }
        for (Map.Entry<String, String> entry : SECTIONS.entrySet()) {
            StringBuilder left = new StringBuilder();
            for (int i = 0; i < entry.getValue().length(); i++) {
                left.append(TOLD.get(entry.getKey())[i] ? '|' : entry.getValue().charAt(i));
            }
            String rest = left.toString().replaceAll("\\|+", "|");
            if (rest.matches("(?s).*[A-Za-z0-9].*")) {
                wrong++;
                System.out.println(entry.getKey() + " has words without a test: " + rest);
            }
        }
    }

    static void end() {
        tellWordsLeft();
        System.out.println(tests + " sentences: " + (wrong == 0 ? "all hold" : wrong + " answers are not as due"));
        if (wrong != 0) {
            System.exit(1);
        }
    }
}
