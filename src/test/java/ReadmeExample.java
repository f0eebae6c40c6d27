import java.io.IOException;
import java.nio.file.Files;
import java.nio.file.Path;
import java.util.ArrayList;
import java.util.LinkedHashMap;
import java.util.List;
import java.util.Map;
import java.util.regex.Matcher;
import java.util.regex.Pattern;

/** README.md's example: it stands here line by line, and what it answers is what README.md says behind its lines. */
public final class ReadmeExample {
    private static final Pattern ANSWER = Pattern.compile("(?:int|long|boolean) (\\w+) = .*// (-?\\d+|true|false):.*");

    private static int wrong = 0;

    private ReadmeExample() {
    }

    private static void due(String what, boolean holds) {
        if (!holds) {
            wrong++;
            System.out.println("README.md: " + what);
        }
    }

    private static Map<String, String> example() {
        Map<String, String> told = new LinkedHashMap<>();
        // the example begins
        JoinLoom loom = new JoinLoom();
        loom.table(0, 2);
        loom.put(0, 1, 2, 0);
        loom.put(0, 2, 3, 0);
        loom.put(0, 3, 1, 0);
        loom.table(1, 1);
        loom.put(1, 3, 0, 0);

        loom.ask(2);
        loom.part(0, 0);
        loom.name(0);
        loom.name(1);
        loom.part(1, 1);
        loom.name(1);
        boolean stands = loom.count(4) == 1;

        int answers = loom.weave();
        int liked = loom.answer(1, 1);
        int place = loom.witness(1, 0);
        int first = loom.meetings(0);
        long sum = loom.sum(1, 0);
        long fans = loom.group(1, 2, 0, 0);
        long bound = loom.bound();
        int share = loom.cover(0);

        loom.keep();
        loom.put(1, 2, 0, 0);
        int left = loom.weave();
        int gone = loom.delta(1);
        int whom = loom.change(1, 0, 1);

        int fewest = loom.best();
        int leads = loom.count(10);
        int rings = loom.rings(0);
        int corner = loom.ring(0, 0, 2);
        // the example ends
        told.put("stands", "" + stands);
        told.put("answers", "" + answers);
        told.put("liked", "" + liked);
        told.put("place", "" + place);
        told.put("first", "" + first);
        told.put("sum", "" + sum);
        told.put("fans", "" + fans);
        told.put("bound", "" + bound);
        told.put("share", "" + share);
        told.put("left", "" + left);
        told.put("gone", "" + gone);
        told.put("whom", "" + whom);
        told.put("fewest", "" + fewest);
        told.put("leads", "" + leads);
        told.put("rings", "" + rings);
        told.put("corner", "" + corner);
        return told;
    }

    private static String codeOf(String line) {
        int comment = line.indexOf("//");
        return (comment < 0 ? line : line.substring(0, comment)).trim();
    }

    /** The code of the lines between two others, without comments and empty lines. */
    private static List<String> code(List<String> lines, String before, String after) {
        List<String> code = new ArrayList<>();
        boolean inside = false;
        for (String line : lines) {
            if (inside && line.trim().equals(after)) {
                return code;
            }
            if (inside && !codeOf(line).isEmpty()) {
                code.add(codeOf(line));
            }
            inside = inside || line.trim().equals(before);
        }
        due("no lines between " + before + " and " + after, false);
        return code;
    }

    public static void main(String[] args) throws IOException {
        List<String> readme = Files.readAllLines(Path.of("README.md"));
        List<String> here = Files.readAllLines(Path.of("src/test/java/ReadmeExample.java"));
        List<String> shown = code(readme, "```java", "```");
        List<String> run = code(here, "// the example begins", "// the example ends");
        due("its example isn't the one that is run", !shown.isEmpty() && shown.equals(run));
        Map<String, String> told = example();
        Map<String, String> said = new LinkedHashMap<>();
        for (String line : readme) {
            Matcher answer = ANSWER.matcher(line.trim());
            if (answer.matches()) {
                said.put(answer.group(1), answer.group(2));
            }
        }
        due("it says " + said + ", the example answers " + told, said.equals(told));
        System.out.println(wrong == 0 ? "the example is as it is told" : wrong + " faults");
        if (wrong != 0) {
            System.exit(1);
        }
    }
}
