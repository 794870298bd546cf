import java.math.BigInteger;
import java.util.ArrayDeque;
import java.util.ArrayList;
import java.util.Arrays;
import java.util.Collections;
import java.util.Comparator;
import java.util.HashMap;
import java.util.HashSet;
import java.util.List;
import java.util.Map;
import java.util.NoSuchElementException;
import java.util.Set;
import java.util.TreeMap;

/** The document told a second time, as slowly and as plainly as can be, to hold FavourBeasts against. */
final class Model {
    // ---- texts ----

    static final class Fault extends Exception {
        private static final long serialVersionUID = 1L;
        final int kind;
        final int place;

        Fault(int kind, int place) {
            this.kind = kind;
            this.place = place;
        }
    }

    static final class Token {
        final char sort; // n number, w word, s another sign, e the end
        final String text;
        final int place;

        Token(char sort, String text, int place) {
            this.sort = sort;
            this.text = text;
            this.place = place;
        }
    }

    static List<Token> tokens(String text) {
        List<Token> all = new ArrayList<>();
        int i = 0;
        while (i < text.length()) {
            char c = text.charAt(i);
            int start = i;
            if (c == ' ') {
                i++;
            } else if (c >= '0' && c <= '9') {
                while (i < text.length() && text.charAt(i) >= '0' && text.charAt(i) <= '9') {
                    i++;
                }
                all.add(new Token('n', text.substring(start, i), start));
            } else if (c >= 'a' && c <= 'z') {
                while (i < text.length() && text.charAt(i) >= 'a' && text.charAt(i) <= 'z') {
                    i++;
                }
                all.add(new Token('w', text.substring(start, i), start));
            } else {
                i++;
                all.add(new Token('s', text.substring(start, i), start));
            }
        }
        all.add(new Token('e', "", text.length()));
        return all;
    }

    static final class Cursor {
        private static String lastText = "";
        private static List<Token> lastTokens = tokens("");
        final List<Token> all;
        int at = 0;

        // A law is read anew for each beast and day: its signs are kept from one time to the next.
        Cursor(String text) {
            if (!text.equals(lastText)) {
                lastTokens = tokens(text);
                lastText = text;
            }
            all = lastTokens;
        }

        Token peek() {
            return all.get(at);
        }

        boolean ended() {
            return peek().sort == 'e';
        }

        boolean isSign(String sign) {
            return peek().sort == 's' && peek().text.equals(sign);
        }

        void sign(String sign) throws Fault {
            if (!isSign(sign)) {
                throw new Fault(1, peek().place);
            }
            at++;
        }

        Token word() throws Fault {
            if (peek().sort != 'w') {
                throw new Fault(1, peek().place);
            }
            return all.get(at++);
        }

        int number(int least, int most, Set<Integer> not) throws Fault {
            Token t = peek();
            if (t.sort != 'n') {
                throw new Fault(1, t.place);
            }
            BigInteger value = new BigInteger(t.text);
            if (value.compareTo(BigInteger.valueOf(least)) < 0 || value.compareTo(BigInteger.valueOf(most)) > 0
                    || not.contains(value.intValue())) {
                throw new Fault(2, t.place);
            }
            at++;
            return value.intValue();
        }

        int number(int least, int most) throws Fault {
            return number(least, most, Collections.emptySet());
        }
    }

    static final class Told {
        final List<int[]> folk = new ArrayList<>();
        final List<int[]> beasts = new ArrayList<>();
        final List<int[]> fairs = new ArrayList<>();
    }

    static Told readHills(String text) throws Fault {
        Told told = new Told();
        Cursor in = new Cursor(text);
        while (!in.ended()) {
            Token w = in.word();
            if (w.text.equals("folk")) {
                if (told.folk.size() == 6) {
                    throw new Fault(3, w.place);
                }
                told.folk.add(new int[] {in.number(0, 99), in.number(0, 9)});
            } else if (w.text.equals("beast")) {
                if (told.beasts.size() == 12) {
                    throw new Fault(3, w.place);
                }
                int a = in.number(0, told.folk.size() - 1);
                int b = in.number(0, told.folk.size() - 1, Set.of(a));
                told.beasts.add(new int[] {a, b, in.number(0, 5), in.number(1, 30)});
            } else if (w.text.equals("fair")) {
                if (told.fairs.size() == 10) {
                    throw new Fault(3, w.place);
                }
                int k = in.number(0, 5);
                told.fairs.add(new int[] {k, in.number(0, 5, Set.of(k)), in.number(1, 9)});
            } else {
                throw new Fault(1, w.place);
            }
            in.sign(";");
        }
        return told;
    }

    /** Reads an expression, reckoning it as it goes by the facts. */
    static final class Reckoner {
        final Cursor in;
        final Map<String, Integer> facts;
        int open = 0;

        Reckoner(String text, Map<String, Integer> facts) {
            this.in = new Cursor(text);
            this.facts = facts;
        }

        int whole() throws Fault {
            int value = sum();
            if (!in.ended()) {
                throw new Fault(1, in.peek().place);
            }
            return value;
        }

        int sum() throws Fault {
            int value = product();
            while (in.isSign("+") || in.isSign("-")) {
                boolean plus = in.isSign("+");
                in.at++;
                int right = product();
                value = plus ? value + right : value - right;
            }
            return value;
        }

        int product() throws Fault {
            int value = unit();
            while (in.isSign("*") || in.isSign("/") || in.isSign("%")) {
                String sign = in.peek().text;
                in.at++;
                long right = unit();
                if (sign.equals("*")) {
                    value = (int) (value * right);
                } else if (right == 0) {
                    value = 0;
                } else {
                    value = (int) (sign.equals("/") ? value / right : value % right);
                }
            }
            return value;
        }

        int unit() throws Fault {
            Token t = in.peek();
            if (t.sort == 'n') {
                return in.number(0, 999);
            }
            if (in.isSign("(")) {
                opened(t);
                int value = sum();
                in.sign(")");
                open--;
                return value;
            }
            Token w = in.word();
            if (w.text.equals("least") || w.text.equals("most")) {
                in.at--;
                opened(t);
                in.sign("[");
                int one = sum();
                in.sign(",");
                int other = sum();
                in.sign("]");
                open--;
                return w.text.equals("least") ? Math.min(one, other) : Math.max(one, other);
            }
            Integer fact = facts.get(w.text);
            if (fact == null) {
                throw new Fault(1, w.place);
            }
            return fact;
        }

        void opened(Token t) throws Fault {
            if (++open > 6) {
                throw new Fault(3, t.place);
            }
            in.at++;
        }
    }

    static Map<String, Integer> facts(int weight, int kind, int age, int grass, int others, int cool, int day, int beast) {
        Map<String, Integer> facts = new HashMap<>();
        facts.put("weight", weight);
        facts.put("kind", kind);
        facts.put("age", age);
        facts.put("grass", grass);
        facts.put("others", others);
        facts.put("cool", cool);
        facts.put("day", day);
        facts.put("beast", beast);
        return facts;
    }

    static final class Step {
        String what;
        int one;
        int other;
        List<Step> body;
    }

    List<Step> readSteps(Cursor in, int open) throws Fault {
        List<Step> steps = new ArrayList<>();
        while (open == 0 ? !in.ended() : !in.isSign("]")) {
            Token w = in.word();
            Step s = new Step();
            s.what = w.text;
            switch (w.text) {
                case "ask":
                case "kill":
                case "do":
                    s.one = in.number(0, told.beasts.size() - 1);
                    break;
                case "drive":
                    s.one = in.number(0, told.beasts.size() - 1);
                    s.other = in.number(0, told.folk.size() - 1);
                    break;
                case "hay":
                    s.one = in.number(0, told.folk.size() - 1);
                    s.other = in.number(1, 60);
                    break;
                case "day":
                    break;
                case "again":
                    if (open == 6) {
                        throw new Fault(3, w.place);
                    }
                    s.one = in.number(0, 60);
                    in.sign("[");
                    s.body = readSteps(in, open + 1);
                    in.sign("]");
                    break;
                default:
                    throw new Fault(1, w.place);
            }
            in.sign(";");
            steps.add(s);
        }
        return steps;
    }

    static Map<Integer, Integer> readBook(String text) throws Fault {
        Map<Integer, Integer> lines = new TreeMap<>();
        Cursor in = new Cursor(text);
        while (!in.ended()) {
            int place = in.peek().place;
            int d = in.number(1, 12, lines.keySet());
            if (lines.size() == 6) {
                throw new Fault(3, place);
            }
            lines.put(d, in.number(0, 99));
            in.sign(";");
        }
        return lines;
    }

    // ---- state ----

    static final class Beast {
        int number;
        int kind;
        int a;
        int b;
        int weight;
        int pasture;
        int age;

        Beast copy() {
            Beast c = new Beast();
            c.number = number;
            c.kind = kind;
            c.a = a;
            c.b = b;
            c.weight = weight;
            c.pasture = pasture;
            c.age = age;
            return c;
        }
    }

    final class State {
        int[] grass;
        TreeMap<Integer, Beast> herd = new TreeMap<>();
        int[][] cool = new int[6][6];
        int day = 0;
        int starved = 0;

        State copy() {
            State c = new State();
            c.grass = grass.clone();
            for (Beast b : herd.values()) {
                c.herd.put(b.number, b.copy());
            }
            for (int i = 0; i < 6; i++) {
                c.cool[i] = cool[i].clone();
            }
            c.day = day;
            c.starved = starved;
            return c;
        }

        void add(int number) {
            int[] t = told.beasts.get(number);
            Beast b = new Beast();
            b.number = number;
            b.a = t[0];
            b.b = t[1];
            b.kind = t[2];
            b.weight = t[3];
            b.pasture = t[0];
            herd.put(number, b);
        }

        int others(Beast of) {
            int many = -1;
            for (Beast b : herd.values()) {
                many += b.pasture == of.pasture ? 1 : 0;
            }
            return many;
        }

        int eats(Beast b) {
            int c = b.number == 12 ? 0 : cool[b.a][b.b];
            return eatsBy(facts(b.weight, b.kind, b.age, grass[b.pasture], others(b), c, day, b.number));
        }

        void passDay() {
            Map<Integer, Integer> wants = new TreeMap<>();
            for (Beast b : herd.values()) {
                wants.put(b.number, eats(b));
            }
            for (int number : wants.keySet()) {
                Beast b = herd.get(number);
                for (int i = 0; i < wants.get(number); i++) {
                    if (grass[b.pasture] > 0) {
                        grass[b.pasture]--;
                    } else {
                        b.weight--;
                    }
                }
                if (b.weight <= 0) {
                    herd.remove(number);
                    starved++;
                }
            }
            for (Beast b : herd.values()) {
                b.age++;
            }
            for (int f = 0; f < grass.length; f++) {
                grass[f] = Math.min(99, grass[f] + told.folk.get(f)[1]);
            }
            day++;
        }

        boolean tryStep(String what, int one, int other) {
            switch (what) {
                case "ask":
                    return herd.remove(one) != null;
                case "drive":
                    if (!herd.containsKey(one) || herd.get(one).pasture == other) {
                        return false;
                    }
                    herd.get(one).pasture = other;
                    return true;
                case "kill":
                    Beast gone = herd.remove(one);
                    if (gone == null) {
                        return false;
                    }
                    int c = Math.min(9, cool[gone.a][gone.b] + 1);
                    cool[gone.a][gone.b] = c;
                    cool[gone.b][gone.a] = c;
                    return true;
                case "do":
                    if (herd.containsKey(one)) {
                        return false;
                    }
                    add(one);
                    return true;
                case "hay":
                    if (grass[one] == 99) {
                        return false;
                    }
                    grass[one] = Math.min(99, grass[one] + other);
                    return true;
                default:
                    if (day == 400) {
                        return false;
                    }
                    passDay();
                    return true;
            }
        }

        int grassSum() {
            return Arrays.stream(grass).sum();
        }

        int bits() {
            int bits = 0;
            for (int n : herd.keySet()) {
                bits |= 1 << n;
            }
            return bits;
        }

        int weightSum() {
            return herd.values().stream().mapToInt(b -> b.weight).sum();
        }
    }

    Told told = new Told();
    String lawText = "1 + weight / 10";
    Map<Integer, Integer> lines = new TreeMap<>();
    State now = fresh();
    ArrayDeque<State> works = new ArrayDeque<>();
    ArrayDeque<State> imageNow = new ArrayDeque<>();
    ArrayDeque<ArrayDeque<State>> imageWorks = new ArrayDeque<>();
    StringBuilder tape = new StringBuilder();
    int faultPlace = -1;
    int refused = 0;
    int begun;
    int done;
    int[] status = new int[2];

    State fresh() {
        State s = new State();
        s.grass = told.folk.stream().mapToInt(f -> f[0]).toArray();
        for (int i = 0; i < told.beasts.size(); i++) {
            s.add(i);
        }
        return s;
    }

    int eatsBy(Map<String, Integer> facts) {
        try {
            return Math.max(0, Math.min(20, new Reckoner(lawText, facts).whole()));
        } catch (Fault f) {
            throw new AssertionError(f);
        }
    }

    // ---- the face ----

    IllegalArgumentException wrong() {
        status[1]++;
        return new IllegalArgumentException();
    }

    void range(int value, int least, int most) {
        if (value < least || value > most) {
            throw wrong();
        }
    }

    void exists(int number, int many) {
        if (number < 0 || number >= many) {
            status[0]++;
            throw new NoSuchElementException();
        }
    }

    void folkExists(int f) {
        exists(f, told.folk.size());
    }

    int feed(int... five) {
        if (tape.length() > 580) {
            return -1;
        }
        for (int n : five) {
            for (int s = 24; s >= 0; s -= 8) {
                tape.append((char) (n >>> s & 255));
            }
        }
        return tape.length();
    }

    String text(int n, int most) {
        range(n, 0, Math.min(most, tape.length()));
        String text = tape.substring(0, n);
        tape.setLength(0);
        faultPlace = -1;
        return text;
    }

    int fail(Fault f) {
        faultPlace = f.place;
        return f.kind - 10;
    }

    int hills(int n) {
        try {
            told = readHills(text(n, 600));
        } catch (Fault f) {
            return fail(f);
        }
        lawText = "1 + weight / 10";
        lines = new TreeMap<>();
        works.clear();
        imageNow.clear();
        imageWorks.clear();
        refused = 0;
        now = fresh();
        return told.beasts.size();
    }

    int law(int n) {
        try {
            String text = text(n, 150);
            new Reckoner(text, facts(0, 0, 0, 0, 0, 0, 0, 0)).whole();
            lawText = text;
            return 1;
        } catch (Fault f) {
            return fail(f);
        }
    }

    int work(int n) {
        String text = text(n, 150);
        if (works.size() == 16) {
            return -20;
        }
        List<Step> steps;
        try {
            steps = readSteps(new Cursor(text), 0);
        } catch (Fault f) {
            return fail(f);
        }
        works.push(now.copy());
        begun = 0;
        done = 0;
        refused = 0;
        perform(steps);
        return done;
    }

    void perform(List<Step> steps) {
        for (Step s : steps) {
            if (begun == 200) {
                return;
            }
            begun++;
            if (s.body != null) {
                for (int i = 0; i < s.one; i++) {
                    perform(s.body);
                }
            } else if (now.tryStep(s.what, s.one, s.other)) {
                done++;
            } else {
                refused++;
            }
        }
    }

    int book(int n) {
        try {
            lines = readBook(text(n, 60));
            return lines.size();
        } catch (Fault f) {
            return fail(f);
        }
    }

    int fault() {
        return faultPlace;
    }

    int undo() {
        if (works.isEmpty()) {
            return -1;
        }
        now = works.pop().copy(); // an image may hold the same one
        refused = 0;
        return works.size();
    }

    int told(int what) {
        range(what, 0, 11);
        int coolSum = 0;
        for (int i = 0; i < 6; i++) {
            for (int j = 0; j < 6; j++) {
                coolSum += now.cool[i][j];
            }
        }
        int eats = now.herd.values().stream().mapToInt(now::eats).sum();
        return new int[] {told.folk.size(), told.beasts.size(), told.fairs.size(), now.day, now.bits(), now.grassSum(),
            now.weightSum(), eats, now.starved, lines.size(), refused, coolSum / 2}[what];
    }

    int folk(int f, int what) {
        folkExists(f);
        range(what, 0, 5);
        int on = 0;
        int as = 0;
        int bs = 0;
        int eats = 0;
        for (Beast b : now.herd.values()) {
            on |= b.pasture == f ? 1 << b.number : 0;
            as |= b.a == f ? 1 << b.number : 0;
            bs |= b.b == f ? 1 << b.number : 0;
            eats += b.pasture == f ? now.eats(b) : 0;
        }
        return new int[] {now.grass[f], told.folk.get(f)[1], on, as, bs, eats}[what];
    }

    int beast(int n, int what) {
        exists(n, told.beasts.size());
        range(what, 0, 6);
        if (what < 3) {
            return told.beasts.get(n)[what];
        }
        Beast b = now.herd.get(n);
        if (b == null) {
            return what == 4 ? -1 : 0;
        }
        return new int[] {b.weight, b.pasture, b.age, now.eats(b)}[what - 3];
    }

    int fair(int n, int what) {
        exists(n, told.fairs.size());
        range(what, 0, 2);
        return told.fairs.get(n)[what];
    }

    int cool(int f, int g) {
        folkExists(f);
        folkExists(g);
        return now.cool[f][g];
    }

    int would(int... p) {
        int[] least = {1, 0, 0, 0, 0, 0, 0, 0};
        int[] most = {30, 5, 999, 99, 12, 9, 400, 12};
        for (int i = 0; i < 8; i++) {
            range(p[i], least[i], most[i]);
        }
        return eatsBy(facts(p[0], p[1], p[2], p[3], p[4], p[5], p[6], p[7]));
    }

    int ahead(int n, int what) {
        range(n, 0, 99);
        range(what, 0, 2);
        State s = now.copy();
        for (int i = 0; i < n; i++) {
            s.passDay();
        }
        return new int[] {s.grassSum(), s.bits(), s.weightSum()}[what];
    }

    int bare(int f) {
        folkExists(f);
        State s = now.copy();
        for (int i = 0; i < 100; i++) {
            if (s.grass[f] == 0) {
                return i;
            }
            s.passDay();
        }
        return -1;
    }

    List<List<Beast>> sets(List<Beast> of) {
        List<List<Beast>> all = new ArrayList<>();
        all.add(new ArrayList<>());
        for (Beast b : of) {
            for (List<Beast> without : new ArrayList<>(all)) {
                List<Beast> with = new ArrayList<>(without);
                with.add(b);
                all.add(with);
            }
        }
        return all;
    }

    static int bitsOf(List<Beast> set) {
        int bits = 0;
        for (Beast b : set) {
            bits |= 1 << b.number;
        }
        return bits;
    }

    static int weightOf(List<Beast> set) {
        return set.stream().mapToInt(b -> b.weight).sum();
    }

    int cancel() {
        return sets(new ArrayList<>(now.herd.values())).stream().filter(set -> {
            int[] owed = new int[6];
            for (Beast b : set) {
                owed[b.a]++;
                owed[b.b]--;
            }
            return Arrays.equals(owed, new int[6]);
        }).min(Comparator.<List<Beast>>comparingInt(s -> -s.size()).thenComparingInt(Model::bitsOf)).map(Model::bitsOf).get();
    }

    int herd(int f, int what) {
        folkExists(f);
        range(what, 0, 1);
        Map<Integer, Integer> eats = new HashMap<>();
        for (Beast b : now.herd.values()) {
            eats.put(b.number, now.eats(b));
        }
        List<Beast> best = sets(new ArrayList<>(now.herd.values())).stream()
            .filter(set -> set.stream().mapToInt(b -> eats.get(b.number)).sum() <= now.grass[f])
            .min(Comparator.<List<Beast>>comparingInt(s -> -weightOf(s)).thenComparingInt(List::size)
                .thenComparingInt(Model::bitsOf)).get();
        return what == 0 ? weightOf(best) : bitsOf(best);
    }

    int paid(int n, int what) {
        exists(n, told.beasts.size());
        range(what, 0, 1);
        Beast own = now.herd.get(n);
        if (own == null) {
            return what == 0 ? 0 : -1;
        }
        List<Beast> others = new ArrayList<>(now.herd.values());
        others.remove(own);
        List<List<Beast>> good = new ArrayList<>();
        for (List<Beast> set : sets(others)) {
            if (weightOf(set) == own.weight) {
                good.add(set);
            }
        }
        if (what == 0) {
            return good.size();
        }
        return good.stream().min(Comparator.<List<Beast>>comparingInt(List::size).thenComparingInt(Model::bitsOf))
            .map(Model::bitsOf).orElse(-1);
    }

    /** For each pair that all lines allow, the pair and then the grass of days 1 to 12. */
    List<int[]> allowed(int f) {
        List<int[]> all = new ArrayList<>();
        for (int kind = 0; kind < 6; kind++) {
            for (int weight = 1; weight <= 30; weight++) {
                State s = now.copy();
                Beast b = new Beast();
                b.number = 12;
                b.kind = kind;
                b.weight = weight;
                b.pasture = f;
                s.herd.put(12, b);
                int[] row = new int[13];
                row[0] = 100 * kind + weight;
                for (int d = 1; d <= 12; d++) {
                    s.passDay();
                    row[d] = s.grass[f];
                }
                if (lines.entrySet().stream().allMatch(e -> row[e.getKey()] == e.getValue())) {
                    all.add(row);
                }
            }
        }
        return all;
    }

    int unseen(int f, int what) {
        folkExists(f);
        range(what, 0, 1);
        List<int[]> all = allowed(f);
        return what == 0 ? all.size() : all.isEmpty() ? -1 : all.get(0)[0];
    }

    int look(int f, int what) {
        folkExists(f);
        range(what, 0, 1);
        List<int[]> all = allowed(f);
        int bestDay = -1;
        int bestLeft = 1000;
        for (int d = 1; d <= 12; d++) {
            if (lines.containsKey(d)) {
                continue;
            }
            Map<Integer, Integer> left = new HashMap<>();
            for (int[] row : all) {
                left.merge(row[d], 1, Integer::sum);
            }
            int worst = left.isEmpty() ? 0 : Collections.max(left.values());
            if (worst < bestLeft) {
                bestLeft = worst;
                bestDay = d;
            }
        }
        return what == 0 ? bestDay : bestLeft;
    }

    Map<Integer, Integer> distances(int from) {
        Map<Integer, Integer> far = new HashMap<>();
        far.put(from, 0);
        ArrayDeque<Integer> queue = new ArrayDeque<>(List.of(from));
        while (!queue.isEmpty()) {
            int f = queue.poll();
            for (Beast b : now.herd.values()) {
                if (b.b == f && !far.containsKey(b.a)) {
                    far.put(b.a, far.get(f) + 1);
                    queue.add(b.a);
                }
            }
        }
        return far;
    }

    int way(int f, int g) {
        folkExists(f);
        folkExists(g);
        return distances(f).getOrDefault(g, -1);
    }

    int round(int f) {
        folkExists(f);
        return distances(f).keySet().stream().mapToInt(g -> 1 << g).sum();
    }

    int price(int kind, int other) {
        range(kind, 0, 5);
        range(other, 0, 5);
        int best = cheapest(kind, other, new HashSet<>());
        return best > 999 ? -1 : best;
    }

    private int cheapest(int from, int to, Set<Integer> been) {
        if (from == to) {
            return 1;
        }
        int best = 1_000_000;
        been.add(from);
        for (int[] fair : told.fairs) {
            if (fair[0] == from && !been.contains(fair[1])) {
                best = Math.min(best, fair[2] * Math.min(1_000_000, cheapest(fair[1], to, been)));
            }
        }
        been.remove(from);
        return best;
    }

    int owing(int v, int w, int what) {
        range(v, 0, 99);
        range(w, 0, 99);
        range(what, 0, 2);
        int[][] has = {{v - w, -w}, {0, 0}};
        int many = 0;
        int first = -1;
        int sum = 0;
        for (int one = 0; one < 2; one++) {
            for (int other = 0; other < 2; other++) {
                if (has[1 - one][other] > has[one][other] || has[1 - other][one] > has[other][one]) {
                    continue;
                }
                if (many++ == 0) {
                    first = 10 * one + other;
                    sum = has[one][other] + has[other][one];
                }
            }
        }
        return new int[] {many, first, sum}[what];
    }

    /** By one stray after another: how likely it is that so many are lost by then. */
    long home(int n, int k, int q, int part) {
        range(n, 0, 12);
        range(k, 0, 12);
        range(q, 0, 16);
        range(part, 0, 1);
        BigInteger[] lost = new BigInteger[14];
        Arrays.fill(lost, BigInteger.ZERO);
        lost[0] = BigInteger.ONE;
        for (int i = 0; i < n; i++) {
            for (int j = 13; j >= 0; j--) {
                BigInteger stay = lost[j].multiply(BigInteger.valueOf(q));
                lost[j] = j == 0 ? stay : stay.add(lost[j - 1].multiply(BigInteger.valueOf(16 - q)));
            }
        }
        BigInteger above = BigInteger.ZERO;
        for (int j = 0; j <= k; j++) {
            above = above.add(lost[j]);
        }
        BigInteger below = BigInteger.valueOf(16).pow(n);
        BigInteger common = above.gcd(below);
        return (part == 0 ? above : below).divide(common).longValueExact();
    }

    int share(int f, int folks, int n) {
        folkExists(f);
        range(n, 0, 999);
        for (int i = told.folk.size(); i < 32; i++) {
            if ((folks >>> i & 1) == 1) {
                throw wrong();
            }
        }
        int[] missing = new int[told.folk.size()];
        for (int i = 0; i < missing.length; i++) {
            missing[i] = (folks >> i & 1) == 1 ? 99 - now.grass[i] : 0;
        }
        int bound = 0;
        for (int b = 1; b <= 99; b++) {
            int top = b;
            if (Arrays.stream(missing).map(m -> Math.min(m, top)).sum() <= n) {
                bound = b;
            }
        }
        return Math.min(missing[f], bound);
    }

    int first(int what, Comparator<Beast> order, java.util.function.ToIntFunction<Beast> value) {
        range(what, 0, 1);
        Beast best = now.herd.values().stream().min(order.thenComparingInt(b -> b.number)).orElse(null);
        return best == null ? -1 : what == 0 ? best.number : value.applyAsInt(best);
    }

    int heaviest(int what) {
        return first(what, Comparator.comparingInt(b -> -b.weight), b -> b.weight);
    }

    int lightest(int what) {
        return first(what, Comparator.comparingInt(b -> b.weight), b -> b.weight);
    }

    int oldest(int what) {
        return first(what, Comparator.comparingInt(b -> -b.age), b -> b.age);
    }

    int overrun() {
        int bits = 0;
        for (int f = 0; f < told.folk.size(); f++) {
            int pasture = f;
            int eats = now.herd.values().stream().filter(b -> b.pasture == pasture).mapToInt(now::eats).sum();
            bits |= eats > now.grass[f] ? 1 << f : 0;
        }
        return bits;
    }

    int good(int what) {
        range(what, 0, 2);
        int bits = 0;
        for (int f = 0; f < told.folk.size(); f++) {
            int balance = 0;
            for (Beast b : now.herd.values()) {
                balance += (b.a == f ? 1 : 0) - (b.b == f ? 1 : 0);
            }
            bits |= what == 1 - Integer.signum(balance) ? 1 << f : 0;
        }
        return bits;
    }

    int kind(int kind) {
        range(kind, 0, 5);
        return now.herd.values().stream().filter(b -> b.kind == kind).mapToInt(b -> 1 << b.number).sum();
    }

    int driven() {
        return now.herd.values().stream().filter(b -> b.pasture != b.a).mapToInt(b -> 1 << b.number).sum();
    }

    int weighs(int f, int what) {
        folkExists(f);
        range(what, 0, 1);
        return now.herd.values().stream().filter(b -> (what == 0 ? b.a : b.b) == f).mapToInt(b -> b.weight).sum();
    }

    int coolest(int what) {
        range(what, 0, 1);
        int pair = -1;
        int most = -1;
        for (int i = 0; i < 6; i++) {
            for (int j = i + 1; j < 6; j++) {
                if (now.cool[i][j] > Math.max(most, 0)) {
                    most = now.cool[i][j];
                    pair = 10 * i + j;
                }
            }
        }
        return what == 0 ? pair : most;
    }

    private int seed;

    private int draw(int many) {
        seed = (int) (seed * 1103515245L + 12345L);
        return (seed >>> 16 & 32767) % many;
    }

    State pass(int from, int days, int q) {
        seed = from;
        State s = now.copy();
        for (int i = 0; i < days; i++) {
            if (!told.beasts.isEmpty()) {
                int x = draw(told.beasts.size());
                s.tryStep(s.herd.containsKey(x) ? "ask" : "do", x, 0);
                if (draw(16) < q) {
                    int y = draw(told.beasts.size());
                    int f = draw(told.folk.size());
                    s.tryStep("drive", y, f);
                }
            }
            s.passDay();
        }
        return s;
    }

    int decade(int from, int days, int q, int what) {
        range(days, 1, 96);
        range(q, 0, 16);
        range(what, 0, 3);
        State s = pass(from, days, q);
        return new int[] {s.grassSum(), s.bits(), s.starved - now.starved, s.weightSum()}[what];
    }

    int span(int from, int many, int days, int q, int what, int f) {
        range(many, 1, 20);
        range(days, 1, 96);
        range(q, 0, 16);
        range(what, 0, 2);
        range(f, 0, told.folk.size() - 1);
        List<Integer> sums = new ArrayList<>();
        int bare = 0;
        for (int i = 0; i < many; i++) {
            State s = pass(from + i, days, q);
            sums.add(s.grassSum());
            bare += s.grass[f] == 0 ? 1 : 0;
        }
        return what == 0 ? Collections.min(sums) : what == 1 ? Collections.max(sums) : bare;
    }

    int image() {
        if (imageNow.size() == 3) {
            return -1;
        }
        imageNow.push(now.copy());
        imageWorks.push(new ArrayDeque<>(works));
        return imageNow.size();
    }

    int restore() {
        if (imageNow.isEmpty()) {
            return -1;
        }
        now = imageNow.pop();
        works = imageWorks.pop();
        refused = 0;
        return imageNow.size();
    }

    int status(int what) {
        return what == 0 || what == 1 ? status[what] : -1;
    }

    int count(int what) {
        return what == 0 ? imageNow.size() : what == 1 ? tape.length() : what == 2 ? works.size() : -1;
    }
}
