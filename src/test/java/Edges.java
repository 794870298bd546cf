import java.io.IOException;
import java.nio.file.Files;
import java.nio.file.Path;
import java.util.ArrayList;
import java.util.Arrays;
import java.util.List;
import java.util.TreeSet;
import java.util.regex.Pattern;

/**
 * Tests of boundary cases, each with the promise it is seen by and the sentence of ../shared/DOC.md that names it.
 * A sentence that the document does not have is an error, and so is a piece of the document that no test quotes.
 */
final class Edges {
    private static final Path DOCUMENT = Path.of("../shared/DOC.md");
    private static final int PROMISES = 42;

    private final String name;
    private final boolean terms;
    private final String text;
    private final boolean[] quoted;
    private final TreeSet<Integer> promises = new TreeSet<>();
    private final List<String> wrong = new ArrayList<>();
    private int tests = 0;

    /** Of the Terms, or of the promises, where a sentence is looked for in the promise's own section. */
    Edges(String name, boolean terms) throws IOException {
        this.name = name;
        this.terms = terms;
        this.text = squeeze(Files.readString(DOCUMENT).replaceAll("(?m)^## (Promise \\d+:).*$", "##$1")
            .replaceAll("(?m)^```\\w*$", "").replaceAll("==== \\d+\\.", "").replaceAll("(?m)^`.*?`: ", ""));
        this.quoted = new boolean[text.length()];
        Pattern.compile("##Promise\\d+:|##Terms").matcher(text).results()
            .forEach(heading -> Arrays.fill(quoted, heading.start(), heading.end(), true));
    }

    /** Blanks don't count, and ' stands for both signs of quotation. */
    private static String squeeze(String sentence) {
        return sentence.replace('"', '\'').replaceAll("\\s+", "");
    }

    /** Runs rows of calls, on a new object, with the answers that the sentence asks for. */
    void edge(int promise, String sentence, String rows) {
        Script script = new Script(name + ": promise " + promise + ", \"" + sentence + "\"");
        script.run(written(rows));
        quote(promise, sentence);
        if (!script.passed()) {
            wrong.add("promise " + promise);
        }
    }

    void holds(int promise, String sentence, boolean right, String what) {
        quote(promise, sentence);
        if (!right) {
            wrong.add("promise " + promise + ", \"" + sentence + "\": " + what);
        }
    }

    private static String written(String rows) {
        String days = "work 'again 60[day;];again 60[day;];again 60[day;];' = 180\n";
        return rows.replace("{two}", "hills 'folk 10 1;folk 20 2;beast 0 1 0 10;beast 1 0 5 20;' = 2")
            .replace("{twelve}", "hills '" + twelve() + "' = 12")
            .replace("{day 400}", days + days + "work 'again 40[day;];' = 40")
            .replace("NSEE", "throws.NoSuchElementException").replace("IAE", "throws.IllegalArgumentException");
    }

    /** Two folk with much grass, and twelve beasts by turns, of weights 1 to 12. */
    static String twelve() {
        StringBuilder hills = new StringBuilder("folk 99 9;folk 99 9;");
        for (int i = 0; i < 12; i++) {
            hills.append("beast ").append(i % 2).append(' ').append(1 - i % 2).append(" 0 ").append(i + 1).append(';');
        }
        return hills.toString();
    }

    /** As many rows that feed twenty blanks each. */
    static String blanksFed(int many) {
        StringBuilder rows = new StringBuilder();
        for (int i = 1; i <= many; i++) {
            rows.append("feed(0x20202020, 0x20202020, 0x20202020, 0x20202020, 0x20202020) = ").append(20 * i).append('\n');
        }
        return rows.toString();
    }

    private void quote(int promise, String sentence) {
        tests++;
        promises.add(promise);
        String sought = squeeze(sentence);
        int from = text.indexOf(terms ? "##Whatitis" : "##Promise" + promise + ":");
        int to = terms ? text.indexOf("##Promise1:") : text.indexOf("##", from + 2);
        int at = text.indexOf(sought, Math.max(from, 0));
        if (sought.isEmpty() || from < 0 || at < 0 || at + sought.length() > to) {
            wrong.add("promise " + promise + " has no sentence \"" + sentence + "\"");
        }
        while (at >= 0 && at + sought.length() <= to) {
            Arrays.fill(quoted, at, at + sought.length(), true);
            at = text.indexOf(sought, at + 1);
        }
    }

    private void findUnquoted() {
        for (int number = 1; number <= PROMISES && !terms; number++) {
            if (!promises.contains(number)) {
                wrong.add("no test names promise " + number);
            }
        }
        int from = text.indexOf(terms ? "##Terms" : "##Promise1:");
        int to = text.indexOf(terms ? "##Promise1:" : "##Notpromised");
        StringBuilder piece = new StringBuilder();
        for (int at = from; at < to; at++) {
            if (!quoted[at]) {
                piece.append(text.charAt(at));
            } else {
                noteUnquoted(piece);
            }
        }
        noteUnquoted(piece);
    }

    private void noteUnquoted(StringBuilder piece) {
        if (piece.chars().anyMatch(Character::isLetterOrDigit)) {
            wrong.add("no test quotes \"" + piece + "\"");
        }
        piece.setLength(0);
    }

    /** Prints what is wrong, and ends the program with 1 if something is. */
    void finish() {
        findUnquoted();
        wrong.forEach(row -> System.out.println(name + ": " + row));
        System.out.println(name + (wrong.isEmpty() ? ": all " + tests + " hold" : ": not all hold"));
        if (!wrong.isEmpty()) {
            System.exit(1);
        }
    }
}
