import java.util.ArrayList;
import java.util.Arrays;
import java.util.Collections;
import java.util.List;
import java.util.Random;

/** Runs of drawn calls, in which FavourBeasts must answer as the model does. */
public final class ModelTest {
    private static final int RUNS = Integer.getInteger("runs", 200);
    private static final int CALLS = 160;

    private final Random random;
    private final FavourBeasts real = new FavourBeasts();
    private final Model model = new Model();
    private final List<String> history = new ArrayList<>();
    private boolean same = true;

    private ModelTest(long seed) {
        random = new Random(seed);
    }

    public static void main(String[] args) {
        int wrong = 0;
        for (int run = 0; run < RUNS && wrong < 3; run++) {
            ModelTest test = new ModelTest(Integer.getInteger("from", 0) + run);
            if (!test.agrees()) {
                wrong++;
                System.out.println("run " + run + ":");
                test.history.forEach(System.out::println);
            }
        }
        System.out.println(wrong == 0 ? "ModelTest: all runs agree" : "ModelTest: runs differ");
        if (wrong != 0) {
            System.exit(1);
        }
    }

    private boolean agrees() {
        if (random.nextInt(12) != 0) {
            text("hills", hillsText(), 600);
        }
        for (int i = 0; i < CALLS && same; i++) {
            step();
        }
        return same;
    }

    private void call(String name, int... arguments) {
        if (!same) {
            return;
        }
        String due = Calls.answer(model, name, arguments);
        String got = Calls.answer(real, name, arguments);
        history.add("  " + name + Arrays.toString(arguments) + " answered " + got + ", due is " + due);
        same = due.equals(got);
    }

    private void text(String name, String text, int most) {
        String sent = text.length() > most ? text.substring(0, most) : text;
        history.add("  text '" + sent + "'");
        for (int[] row : Calls.feeds(sent)) {
            call("feed", row);
        }
        int n = sent.length();
        if (chance(40)) {
            n += random.nextInt(41) - 20;
        }
        call(name, n);
        call("fault");
    }

    private boolean chance(int of) {
        return random.nextInt(of) == 0;
    }

    private int within(int least, int most) {
        return least + random.nextInt(most - least + 1);
    }

    /** Mostly within, now and then at the edge or beyond it. */
    private int around(int least, int most) {
        switch (random.nextInt(40)) {
            case 0:
                return least - 1;
            case 1:
                return most + 1;
            case 2:
                return least;
            case 3:
                return most;
            case 4:
                return chance(5) ? random.nextInt() : within(least, most);
            default:
                return within(least, most);
        }
    }

    // ---- texts ----

    private String blank() {
        return chance(3) ? " " : chance(30) ? "   " : "";
    }

    private String number(int value) {
        return (chance(60) ? "00" : "") + value;
    }

    private String numberText(int least, int most) {
        return " " + blank() + number(chance(300) ? most + 1 : chance(300) ? least - 1 : within(least, Math.max(least, most)));
    }

    private String spoiled(String text) {
        if (!chance(8) || text.isEmpty()) {
            return text;
        }
        StringBuilder b = new StringBuilder(text);
        for (int i = within(1, 2); i > 0 && b.length() > 0; i--) {
            int at = random.nextInt(b.length());
            switch (random.nextInt(4)) {
                case 0:
                    b.deleteCharAt(at);
                    break;
                case 1:
                    b.setCharAt(at, "0123456789 ;[](),+-*/%aedkyz\u00ffA\0".charAt(random.nextInt(31)));
                    break;
                case 2:
                    b.setLength(at);
                    break;
                default:
                    b.insert(at, "9 ;x(]".charAt(random.nextInt(6)));
                    break;
            }
        }
        return b.toString();
    }

    private String hillsText() {
        List<String> clauses = new ArrayList<>();
        int folk = chance(20) ? within(0, 7) : within(2, 6);
        int beasts = folk < 2 ? 0 : chance(20) ? within(0, 13) : within(1, 12);
        int fairs = chance(20) ? within(0, 11) : within(0, 9);
        int poor = within(0, 3);
        for (int i = 0; i < folk; i++) {
            clauses.add(blank() + "folk" + numberText(0, poor == 0 ? 12 : 99) + numberText(0, poor < 2 ? 2 : 9) + blank() + ';');
        }
        for (int i = 0; i < beasts; i++) {
            int a = random.nextInt(folk);
            int other = chance(300) ? a : (a + within(1, folk - 1)) % folk;
            clauses.add(blank() + "beast " + number(a) + ' ' + number(other) + numberText(0, 5)
                + numberText(1, poor == 0 ? 6 : 30) + blank() + ';');
        }
        for (int i = 0; i < fairs; i++) {
            int k = random.nextInt(6);
            int l = chance(200) ? k : (k + within(1, 5)) % 6;
            clauses.add("fair " + k + ' ' + l + numberText(1, 9) + ';' + blank());
        }
        // Beasts may come ahead of folk, whom they must not name then.
        for (int i = chance(4) ? within(1, 3) : 0; i > 0 && clauses.size() > 1; i--) {
            Collections.swap(clauses, random.nextInt(clauses.size()), random.nextInt(clauses.size()));
        }
        return spoiled(String.join("", clauses));
    }

    private String sum(int depth) {
        StringBuilder b = new StringBuilder(product(depth));
        for (int i = random.nextInt(3); i > 0; i--) {
            b.append(blank()).append(random.nextBoolean() ? '+' : '-').append(product(depth));
        }
        return b.toString();
    }

    private String product(int depth) {
        StringBuilder b = new StringBuilder(unit(depth));
        for (int i = random.nextInt(4) / 2; i > 0; i--) {
            b.append(blank()).append("*/%".charAt(random.nextInt(3))).append(unit(depth));
        }
        return b.toString();
    }

    private String unit(int depth) {
        String[] words = {"weight", "kind", "age", "grass", "others", "cool", "day", "beast"};
        int sort = random.nextInt(depth > 0 ? 10 : 7);
        if (sort < 4) {
            return blank() + words[random.nextInt(8)];
        }
        if (sort < 7) {
            return blank() + number(chance(5) ? within(0, 1000) : within(0, 12));
        }
        if (sort == 7) {
            return blank() + "(" + sum(depth - 1) + blank() + ")";
        }
        return blank() + (sort == 8 ? "least" : "most") + blank() + "[" + sum(depth - 1) + blank() + ","
            + sum(depth - 1) + blank() + "]";
    }

    private String lawText() {
        if (chance(6)) {
            StringBuilder b = new StringBuilder("2");
            for (int i = within(4, 7); i > 0; i--) {
                b.insert(0, chance(2) ? "(" : chance(2) ? "least[1," : "most[0,");
            }
            String open = b.toString();
            for (int i = open.length() - 1; i >= 0; i--) {
                if (open.charAt(i) == '(' || open.charAt(i) == '[') {
                    b.append(open.charAt(i) == '(' ? ')' : ']');
                }
            }
            return spoiled(b.toString());
        }
        String text = sum(2);
        for (int i = 0; i < 20 && text.length() > 150; i++) {
            text = sum(1);
        }
        return spoiled(text + blank());
    }

    private String steps(int depth, int most) {
        StringBuilder b = new StringBuilder();
        int beasts = model.told.beasts.size();
        int folk = model.told.folk.size();
        for (int i = random.nextInt(most + 1); i > 0; i--) {
            b.append(blank());
            switch (random.nextInt(9)) {
                case 0:
                    b.append("ask").append(numberText(0, beasts - 1));
                    break;
                case 1:
                case 2:
                    b.append("drive").append(numberText(0, beasts - 1)).append(numberText(0, folk - 1));
                    break;
                case 3:
                    b.append("kill").append(numberText(0, beasts - 1));
                    break;
                case 4:
                    b.append("do").append(numberText(0, beasts - 1));
                    break;
                case 5:
                    b.append("hay").append(numberText(0, folk - 1)).append(numberText(1, 60));
                    break;
                case 6:
                    if (depth > 0) {
                        b.append("again").append(numberText(0, chance(3) ? 60 : 6)).append(blank()).append('[');
                        b.append(steps(depth - 1, 3)).append(blank()).append(']');
                        break;
                    }
                    b.append("day");
                    break;
                default:
                    b.append("day");
                    break;
            }
            b.append(blank()).append(';');
        }
        return b.toString();
    }

    private String workText() {
        if (chance(15)) {
            return "again 60 [day;];again 60 [day;];again 60 [day;];again 60 [day;];";
        }
        if (chance(15)) {
            StringBuilder b = new StringBuilder();
            int open = within(5, 7);
            for (int i = 0; i < open; i++) {
                b.append("again ").append(within(1, 3)).append("[");
            }
            b.append("day;");
            for (int i = 0; i < open; i++) {
                b.append("];");
            }
            return spoiled(b.toString());
        }
        String text = steps(3, 7);
        for (int i = 0; i < 20 && text.length() > 150; i++) {
            text = steps(2, 5);
        }
        return spoiled(text + blank());
    }

    private String bookText() {
        StringBuilder b = new StringBuilder();
        int folk = model.told.folk.size();
        int on = folk == 0 ? 0 : random.nextInt(folk);
        List<int[]> rows = folk == 0 || chance(3) ? List.of() : model.allowed(on);
        int[] row = rows.isEmpty() ? null : rows.get(random.nextInt(rows.size()));
        for (int i = chance(8) ? within(0, 7) : within(0, 3); i > 0; i--) {
            int day = within(1, 12);
            b.append(blank()).append(number(day));
            b.append(row == null || chance(10) ? numberText(0, 99) : " " + row[day]).append(blank()).append(';');
        }
        return spoiled(b.toString());
    }

    // ---- calls ----

    private void step() {
        int folk = model.told.folk.size();
        int beasts = model.told.beasts.size();
        switch (random.nextInt(12)) {
            case 0:
                text("work", workText(), 150);
                call("told", 10);
                break;
            case 1:
                change();
                break;
            case 2:
            case 3:
                call("told", around(0, 11));
                call("folk", around(0, folk - 1 + (folk == 0 ? 1 : 0)), around(0, 5));
                break;
            case 4:
                call("beast", around(0, Math.max(0, beasts - 1)), around(0, 6));
                call("fair", around(0, Math.max(0, model.told.fairs.size() - 1)), around(0, 2));
                break;
            case 5:
                call("would", around(1, 30), around(0, 5), around(0, 999), around(0, 99), around(0, 12), around(0, 9),
                    around(0, 400), around(0, 12));
                break;
            case 6:
                askSets(folk, beasts);
                break;
            case 7:
                askDays(folk);
                break;
            case 8:
                askPlain();
                break;
            case 9:
                askPairs(folk);
                break;
            case 10:
                call("status", around(0, 1));
                call("count", around(0, 2));
                call("fault");
                break;
            default:
                askBits(folk);
                break;
        }
    }

    private void change() {
        switch (random.nextInt(9)) {
            case 0:
                if (chance(4)) {
                    text("hills", hillsText(), 600);
                }
                break;
            case 1:
            case 2:
                text("law", lawText(), 150);
                break;
            case 3:
            case 4:
                text("book", bookText(), 60);
                break;
            case 5:
                call("undo");
                break;
            case 6:
                call("image");
                break;
            case 7:
                call("restore");
                break;
            default:
                call("feed", random.nextInt(), random.nextInt(), 0, -1, 1);
                if (chance(2)) {
                    call(new String[] {"hills", "law", "work", "book"}[random.nextInt(4)], around(0, 60));
                    call("fault");
                }
                break;
        }
    }

    private int someFolk(int folk) {
        return around(0, Math.max(0, folk - 1));
    }

    private void askSets(int folk, int beasts) {
        call("cancel");
        call("herd", someFolk(folk), around(0, 1));
        call("paid", around(0, Math.max(0, beasts - 1)), around(0, 1));
    }

    private void askDays(int folk) {
        call("ahead", around(0, 99), around(0, 2));
        call("bare", someFolk(folk));
        call("decade", random.nextInt(), around(1, 96), around(0, 16), around(0, 3));
        if (chance(3)) {
            call("span", random.nextInt(), around(1, 20), around(1, 96), around(0, 16), around(0, 2), someFolk(folk));
        }
        if (chance(3)) {
            int on = someFolk(folk);
            call("unseen", on, around(0, 1));
            call("look", on, around(0, 1));
        }
    }

    private void askPlain() {
        call("price", around(0, 5), around(0, 5));
        call("owing", around(0, chance(2) ? 3 : 99), around(0, chance(2) ? 3 : 99), around(0, 2));
        call("home", around(0, 12), around(0, 12), around(0, 16), around(0, 1));
    }

    private void askPairs(int folk) {
        call("cool", someFolk(folk), someFolk(folk));
        call("way", someFolk(folk), someFolk(folk));
        call("round", someFolk(folk));
        call("coolest", around(0, 1));
        call("share", someFolk(folk), around(0, (1 << folk) - 1), around(0, chance(2) ? 100 : 999));
    }

    private void askBits(int folk) {
        call("heaviest", around(0, 1));
        call("oldest", around(0, 1));
        call("lightest", around(0, 1));
        call("overrun");
        call("good", around(0, 2));
        call("kind", around(0, 5));
        call("driven");
        call("weighs", someFolk(folk), around(0, 1));
    }
}
