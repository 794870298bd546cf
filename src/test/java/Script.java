import java.util.ArrayList;
import java.util.Arrays;
import java.util.List;

/**
 * Runs rows of calls with the answers that are due: "told(3) = 1", or "work 'day;' = 1", which feeds the text and
 * calls with its length; "new" makes a new object; behind // stands why.
 */
final class Script {
    private final String name;
    private FavourBeasts x = new FavourBeasts();
    private int rows = 0;
    private final List<String> wrong = new ArrayList<>();

    Script(String name) {
        this.name = name;
    }

    /** Prints what was wrong; whether nothing was. */
    boolean passed() {
        if (rows == 0) {
            wrong.add("no row");
        }
        wrong.forEach(row -> System.out.println(name + ": " + row));
        return wrong.isEmpty();
    }

    void run(String text) {
        for (String line : text.split("\n")) {
            String row = line.replaceAll("//.*", "").trim();
            if (row.equals("new")) {
                x = new FavourBeasts();
            } else if (!row.isEmpty()) {
                runRow(row);
            }
        }
    }

    private void runRow(String row) {
        int split = row.lastIndexOf('=');
        String call = row.substring(0, split).trim();
        String due = row.substring(split + 1).trim();
        String got = call.contains("'") ? read(call) : plain(call);
        rows++;
        if (!got.equals(due)) {
            wrong.add(row + ", but it answered " + got);
        }
    }

    private String read(String call) {
        int quote = call.indexOf('\'');
        String text = call.substring(quote + 1, call.lastIndexOf('\''));
        Calls.feedText(x, text);
        return Calls.answer(x, call.substring(0, quote).trim(), text.length());
    }

    private String plain(String call) {
        int bracket = call.indexOf('(');
        String inside = call.substring(bracket + 1, call.lastIndexOf(')')).trim();
        int[] arguments = inside.isEmpty() ? new int[0]
            : Arrays.stream(inside.split(",")).map(String::trim).mapToInt(Integer::decode).toArray();
        return Calls.answer(x, call.substring(0, bracket).trim(), arguments);
    }
}
