import java.util.Arrays;
import java.util.NoSuchElementException;

/** Favours kept as beasts that graze on the pastures of those who did them. */
public final class FavourBeasts {
    public static final int NONE = -1;

    private static final int MOST_FOLK = 6;
    private static final int MOST_BEASTS = 12;
    // The unseen beast grazes behind all others, so every row of beasts has one place more.
    private static final int STRANGER = MOST_BEASTS;
    private static final int SLOTS = MOST_BEASTS + 1;
    private static final int MOST_FAIRS = 10;
    private static final int KINDS = 6;
    private static final int MOST_WEIGHT = 30;
    private static final int MOST_GRASS = 99;
    private static final int MOST_GROWTH = 9;
    private static final int MOST_COOL = 9;
    private static final int MOST_EATEN = 20;
    private static final int MOST_RATE = 9;
    private static final int MOST_PRICE = 999;
    private static final int LAST_DAY = 400;
    private static final int MOST_AHEAD = 99;
    private static final int BOOK_DAYS = 12;
    private static final int MOST_LINES = 6;
    private static final int STRAYS = 12;
    private static final int SIXTEEN = 16;
    private static final int DECADE_DAYS = 96;

    private static final int TAPE_BYTES = 600;
    private static final int LAW_BYTES = 150;
    private static final int WORK_BYTES = 150;
    private static final int BOOK_BYTES = 60;

    private static final int CANT_STAND = 1;
    private static final int NONE_SUCH = 2;
    private static final int TOO_MANY = 3;
    private static final int MOST_OPEN = 6;

    private static final int MOST_WORKS = 16;
    private static final int MOST_IMAGES = 3;
    private static final int TOO_MANY_WORKS = -20;

    private final Tape tape;
    private final Hills hills;
    private final Hills hillsDraft;
    private final Law law;
    private final Law lawDraft;
    private final Book book;
    private final Book bookDraft;
    private final Plan plan;
    private final Meadow now;
    private final Meadow trial;
    private final Past past;
    private final Herds herds;
    private final Stranger stranger;
    private final Decade decades;
    private int refusedSteps;
    private int missing;
    private int wrong;

    public FavourBeasts() {
        tape = new Tape();
        hills = new Hills();
        hillsDraft = new Hills();
        law = new Law();
        lawDraft = new Law();
        book = new Book();
        bookDraft = new Book();
        plan = new Plan();
        now = new Meadow(hills, law);
        trial = new Meadow(hills, law);
        past = new Past();
        herds = new Herds(hills, now);
        stranger = new Stranger(now, trial, book);
        decades = new Decade(hills, now, trial);
        refusedSteps = 0;
        missing = 0;
        wrong = 0;
    }

    // ---- texts ----

    public int feed(int a, int b, int c, int d, int e) {
        if (!tape.hasRoom()) {
            return NONE;
        }
        tape.put(a);
        tape.put(b);
        tape.put(c);
        tape.put(d);
        tape.put(e);
        return tape.size;
    }

    public int hills(int n) throws IllegalArgumentException {
        needWithin(n, 0, tape.size);
        tape.open(n);
        if (!hillsDraft.read(tape)) {
            return tape.faultAnswer();
        }
        hills.take(hillsDraft);
        law.setPlain();
        book.clear();
        past.clear();
        now.begin();
        refusedSteps = 0;
        return hills.beasts;
    }

    public int law(int n) throws IllegalArgumentException {
        needWithin(n, 0, Math.min(tape.size, LAW_BYTES));
        tape.open(n);
        if (!lawDraft.read(tape)) {
            return tape.faultAnswer();
        }
        law.take(lawDraft);
        return 1;
    }

    public int work(int n) throws IllegalArgumentException {
        needWithin(n, 0, Math.min(tape.size, WORK_BYTES));
        if (past.undoable >= MOST_WORKS) {
            tape.open(0);
            return TOO_MANY_WORKS;
        }
        tape.open(n);
        if (!plan.read(tape, hills)) {
            return tape.faultAnswer();
        }
        past.keepWork(now);
        plan.carryOut(now, 0, plan.size, 0);
        refusedSteps = plan.refused;
        return plan.done;
    }

    public int book(int n) throws IllegalArgumentException {
        needWithin(n, 0, Math.min(tape.size, BOOK_BYTES));
        tape.open(n);
        if (!bookDraft.read(tape)) {
            return tape.faultAnswer();
        }
        book.take(bookDraft);
        return book.lines;
    }

    public int fault() {
        return tape.faultPlace;
    }

    // ---- days undone, images ----

    public int undo() {
        if (!past.undoWork(now)) {
            return NONE;
        }
        refusedSteps = 0;
        return past.undoable;
    }

    public int image() {
        return past.takeImage(now) ? past.images : NONE;
    }

    public int restore() {
        if (!past.useImage(now)) {
            return NONE;
        }
        refusedSteps = 0;
        return past.images;
    }

    // ---- what stands now ----

    public int told(int what) throws IllegalArgumentException {
        needWithin(what, 0, 11);
        switch (what) {
            case 0:
                return hills.folks;
            case 1:
                return hills.beasts;
            case 2:
                return hills.fairs;
            case 3:
                return now.day;
            case 4:
                return now.thereBits();
            case 5:
                return now.allGrass();
            case 6:
                return now.weightOf(now.thereBits());
            case 7:
                return now.eatenBy(now.thereBits());
            case 8:
                return now.starved;
            case 9:
                return book.lines;
            case 10:
                return refusedSteps;
            default:
                return now.allCoolness();
        }
    }

    public int folk(int folk, int what) throws NoSuchElementException, IllegalArgumentException {
        needFolk(folk);
        needWithin(what, 0, 5);
        switch (what) {
            case 0:
                return now.grassOf(folk);
            case 1:
                return hills.growthOf(folk);
            case 2:
                return now.grazingBits(folk);
            case 3:
                return now.thereBits() & hills.doneBy(folk);
            case 4:
                return now.thereBits() & hills.doneFor(folk);
            default:
                return now.eatenBy(now.grazingBits(folk));
        }
    }

    public int beast(int beast, int what) throws NoSuchElementException, IllegalArgumentException {
        needBeast(beast);
        needWithin(what, 0, 6);
        switch (what) {
            case 0:
                return hills.doerOf(beast);
            case 1:
                return hills.receiverOf(beast);
            case 2:
                return hills.kindOf(beast);
            case 3:
                return now.weightOf(1 << beast);
            case 4:
                return now.pastureOf(beast);
            case 5:
                return now.ageOf(beast);
            default:
                return now.eatenBy(1 << beast);
        }
    }

    public int fair(int fair, int what) throws NoSuchElementException, IllegalArgumentException {
        needNumber(fair, hills.fairs);
        needWithin(what, 0, 2);
        return hills.fairPart(fair, what);
    }

    public int cool(int folk, int other) throws NoSuchElementException {
        needFolk(folk);
        needFolk(other);
        return now.coolness(folk, other);
    }

    public int would(int weight, int kind, int age, int grass, int others, int cool, int day, int beast)
            throws IllegalArgumentException {
        needWithin(weight, 1, MOST_WEIGHT);
        needWithin(kind, 0, KINDS - 1);
        needWithin(age, 0, 999);
        needWithin(grass, 0, MOST_GRASS);
        needWithin(others, 0, MOST_BEASTS);
        needWithin(cool, 0, MOST_COOL);
        needWithin(day, 0, LAST_DAY);
        needWithin(beast, 0, STRANGER);
        law.tellBeast(weight, kind, age, beast);
        law.tellPlace(grass, others, cool, day);
        return law.eaten();
    }

    // ---- days ahead ----

    public int ahead(int n, int what) throws IllegalArgumentException {
        needWithin(n, 0, MOST_AHEAD);
        needWithin(what, 0, 2);
        trial.copy(now);
        for (int day = 0; day < n; day++) {
            trial.passDay();
        }
        switch (what) {
            case 0:
                return trial.allGrass();
            case 1:
                return trial.thereBits();
            default:
                return trial.weightOf(trial.thereBits());
        }
    }

    public int bare(int folk) throws NoSuchElementException {
        needFolk(folk);
        trial.copy(now);
        trial.keepOnly(folk);
        for (int day = 0; day <= MOST_AHEAD; day++) {
            if (trial.grassOf(folk) == 0) {
                return day;
            }
            trial.passDay();
        }
        return NONE;
    }

    // ---- sets of beasts ----

    public int cancel() {
        return herds.mostCancelling();
    }

    public int herd(int folk, int what) throws NoSuchElementException, IllegalArgumentException {
        needFolk(folk);
        needWithin(what, 0, 1);
        int set = herds.heaviestFed(now.grassOf(folk));
        return what == 0 ? now.weightOf(set) : set;
    }

    public int paid(int beast, int what) throws NoSuchElementException, IllegalArgumentException {
        needBeast(beast);
        needWithin(what, 0, 1);
        herds.findPayments(beast);
        return what == 0 ? herds.payments : herds.firstPayment;
    }

    // ---- what grazes unseen ----

    public int unseen(int folk, int what) throws NoSuchElementException, IllegalArgumentException {
        needFolk(folk);
        needWithin(what, 0, 1);
        stranger.search(folk);
        return what == 0 ? stranger.pairs : stranger.firstPair;
    }

    public int look(int folk, int what) throws NoSuchElementException, IllegalArgumentException {
        needFolk(folk);
        needWithin(what, 0, 1);
        stranger.chooseDay(folk);
        return what == 0 ? stranger.bestDay : stranger.bestLeft;
    }

    // ---- ways, prices ----

    public int way(int folk, int other) throws NoSuchElementException {
        needFolk(folk);
        needFolk(other);
        int reached = 1 << folk;
        for (int steps = 0; steps < MOST_FOLK; steps++) {
            if ((reached & 1 << other) != 0) {
                return steps;
            }
            reached |= hills.doersFor(reached, now.thereBits());
        }
        return NONE;
    }

    public int round(int folk) throws NoSuchElementException {
        needFolk(folk);
        int reached = 1 << folk;
        for (int steps = 1; steps < MOST_FOLK; steps++) {
            reached |= hills.doersFor(reached, now.thereBits());
        }
        return reached;
    }

    public int price(int kind, int other) throws IllegalArgumentException {
        needWithin(kind, 0, KINDS - 1);
        needWithin(other, 0, KINDS - 1);
        return hills.cheapest(kind, other);
    }

    // ---- reckonings ----

    public int owing(int v, int w, int what) throws IllegalArgumentException {
        needWithin(v, 0, 99);
        needWithin(w, 0, 99);
        needWithin(what, 0, 2);
        switch (what) {
            case 0:
                return Reckoning.restsMany(v, w);
            case 1:
                return Reckoning.firstRest(v, w);
            default:
                return Reckoning.togetherAt(Reckoning.firstRest(v, w), v, w);
        }
    }

    public long home(int n, int k, int q, int part) throws IllegalArgumentException {
        needWithin(n, 0, STRAYS);
        needWithin(k, 0, STRAYS);
        needWithin(q, 0, SIXTEEN);
        needWithin(part, 0, 1);
        return Reckoning.homeFraction(n, k, q, part);
    }

    public int share(int folk, int folks, int n) throws NoSuchElementException, IllegalArgumentException {
        needFolk(folk);
        needWithin(n, 0, 999);
        need((folks & -(1 << hills.folks)) == 0);
        if ((folks & 1 << folk) == 0) {
            return 0;
        }
        for (int bound = MOST_GRASS; bound > 0; bound--) {
            if (now.givenBelow(bound, folks) <= n) {
                return now.givenBelow(bound, 1 << folk);
            }
        }
        return 0;
    }

    // ---- the first of its sort ----

    public int heaviest(int what) throws IllegalArgumentException {
        needWithin(what, 0, 1);
        int beast = now.firstHeaviest();
        return what == 0 || beast == NONE ? beast : now.weightOf(1 << beast);
    }

    public int oldest(int what) throws IllegalArgumentException {
        needWithin(what, 0, 1);
        int beast = now.firstOldest();
        return what == 0 || beast == NONE ? beast : now.ageOf(beast);
    }

    public int lightest(int what) throws IllegalArgumentException {
        needWithin(what, 0, 1);
        int beast = now.firstLightest();
        return what == 0 || beast == NONE ? beast : now.weightOf(1 << beast);
    }

    public int coolest(int what) throws IllegalArgumentException {
        needWithin(what, 0, 1);
        int pair = now.firstCoolest();
        return what == 0 || pair == NONE ? pair : now.coolness(pair / 10, pair % 10);
    }

    // ---- folk and beasts as bits ----

    public int overrun() {
        return now.overrunBits();
    }

    public int good(int what) throws IllegalArgumentException {
        needWithin(what, 0, 2);
        int there = now.thereBits();
        int bits = 0;
        for (int folk = 0; folk < hills.folks; folk++) {
            int did = Integer.bitCount(there & hills.doneBy(folk));
            int got = Integer.bitCount(there & hills.doneFor(folk));
            int sort = did > got ? 0 : did == got ? 1 : 2;
            if (sort == what) {
                bits |= 1 << folk;
            }
        }
        return bits;
    }

    public int kind(int kind) throws IllegalArgumentException {
        needWithin(kind, 0, KINDS - 1);
        return now.thereBits() & hills.ofKind(kind);
    }

    public int driven() {
        return now.drivenBits();
    }

    public int weighs(int folk, int what) throws NoSuchElementException, IllegalArgumentException {
        needFolk(folk);
        needWithin(what, 0, 1);
        return now.weightOf(what == 0 ? hills.doneBy(folk) : hills.doneFor(folk));
    }

    // ---- decades ----

    public int decade(int seed, int days, int q, int what) throws IllegalArgumentException {
        needWithin(days, 1, DECADE_DAYS);
        needWithin(q, 0, SIXTEEN);
        needWithin(what, 0, 3);
        decades.pass(seed, days, q);
        switch (what) {
            case 0:
                return trial.allGrass();
            case 1:
                return trial.thereBits();
            case 2:
                return trial.starved - now.starved;
            default:
                return trial.weightOf(trial.thereBits());
        }
    }

    public int span(int seed, int many, int days, int q, int what, int folk) throws IllegalArgumentException {
        needWithin(many, 1, 20);
        needWithin(days, 1, DECADE_DAYS);
        needWithin(q, 0, SIXTEEN);
        needWithin(what, 0, 2);
        need(hills.hasFolk(folk));
        int least = MOST_FOLK * MOST_GRASS;
        int most = 0;
        int bare = 0;
        for (int i = 0; i < many; i++) {
            decades.pass(seed + i, days, q);
            int grass = trial.allGrass();
            least = Math.min(least, grass);
            most = Math.max(most, grass);
            bare += trial.grassOf(folk) == 0 ? 1 : 0;
        }
        return what == 0 ? least : what == 1 ? most : bare;
    }

    // ---- counts ----

    public int status(int what) {
        return what == 0 ? missing : what == 1 ? wrong : NONE;
    }

    public int count(int what) {
        switch (what) {
            case 0:
                return past.images;
            case 1:
                return tape.size;
            case 2:
                return past.undoable;
            default:
                return NONE;
        }
    }

    // ---- refusals ----

    private void needFolk(int folk) {
        needNumber(folk, hills.folks);
    }

    private void needBeast(int beast) {
        needNumber(beast, hills.beasts);
    }

    private void needNumber(int number, int many) {
        if (number < 0 || number >= many) {
            missing++;
            throw new NoSuchElementException("no such folk, beast or fair");
        }
    }

    private void needWithin(int number, int least, int most) {
        need(number >= least && number <= most);
    }

    private void need(boolean right) {
        if (!right) {
            wrong++;
            throw new IllegalArgumentException("a number that is none such");
        }
    }

    /** The bytes that were fed, and the reading of the first of them as a text. */
    private static final class Tape {
        private static final int FED_AT_ONCE = 20;
        // Digits may go on and on; what is greater than any bound is not told apart.
        private static final int GREAT = 100000;

        final byte[] bytes = new byte[TAPE_BYTES];
        int size = 0;
        int length = 0;
        int place = 0;
        int tokenPlace = 0;
        int faultKind = 0;
        int faultPlace = NONE;

        boolean hasRoom() {
            return size + FED_AT_ONCE <= TAPE_BYTES;
        }

        void put(int number) {
            for (int shift = 24; shift >= 0; shift -= 8) {
                if (size >= 0 && size < TAPE_BYTES) {
                    bytes[size] = (byte) (number >> shift);
                    size++;
                }
            }
        }

        void open(int n) {
            length = n;
            size = 0;
            place = 0;
            tokenPlace = 0;
            faultKind = 0;
            faultPlace = NONE;
        }

        int faultAnswer() {
            return faultKind - 10;
        }

        /** Notes a fault at the latest token; false, so that a reading can end with it. */
        boolean fail(int kind) {
            faultKind = kind;
            faultPlace = tokenPlace;
            return false;
        }

        private int byteAt(int at) {
            return at >= 0 && at < length && at < TAPE_BYTES ? bytes[at] : NONE;
        }

        private void startToken() {
            for (int at = place; at >= 0 && at < length && at < TAPE_BYTES && bytes[at] == ' '; at++) {
                place = at + 1;
            }
            tokenPlace = place;
        }

        boolean ended() {
            startToken();
            return place >= length;
        }

        /** Goes behind the sign, if it stands here. */
        boolean passes(char sign) {
            startToken();
            if (byteAt(place) != sign) {
                return false;
            }
            place++;
            return true;
        }

        boolean expects(char sign) {
            startToken();
            if (byteAt(place) != sign) {
                return fail(CANT_STAND);
            }
            place++;
            return true;
        }

        /** Goes behind the word, if it stands here, and all of its letters are these. */
        boolean passesWord(String word) {
            startToken();
            int letters = word.length();
            for (int i = 0; i < letters; i++) {
                if (byteAt(place + i) != word.charAt(i)) {
                    return false;
                }
            }
            if (isLetter(byteAt(place + letters))) {
                return false;
            }
            place += letters;
            return true;
        }

        private static boolean isLetter(int sign) {
            return sign >= 'a' && sign <= 'z';
        }

        private static boolean isDigit(int sign) {
            return sign >= '0' && sign <= '9';
        }

        boolean atNumber() {
            startToken();
            return isDigit(byteAt(place));
        }

        /** The number that stands here; NONE, with its fault, if there is none such. */
        int number(int least, int most) {
            if (!atNumber()) {
                fail(CANT_STAND);
                return NONE;
            }
            int value = 0;
            for (int i = place; i < length && isDigit(byteAt(i)); i++) {
                value = Math.min(value * 10 + byteAt(i) - '0', GREAT);
                place = i + 1;
            }
            if (value < least || value > most) {
                fail(NONE_SUCH);
                return NONE;
            }
            return value;
        }
    }

    /** What the text of the hills told; no step of work changes it. */
    private static final class Hills {
        final int[] grass = new int[MOST_FOLK];
        final int[] growth = new int[MOST_FOLK];
        final int[] doer = new int[SLOTS];
        final int[] receiver = new int[SLOTS];
        final int[] sort = new int[SLOTS];
        final int[] weight = new int[SLOTS];
        final int[] given = new int[MOST_FAIRS];
        final int[] gotten = new int[MOST_FAIRS];
        final int[] rate = new int[MOST_FAIRS];
        final int[] best = new int[KINDS];
        int folks = 0;
        int beasts = 0;
        int fairs = 0;

        void take(Hills other) {
            System.arraycopy(other.grass, 0, grass, 0, MOST_FOLK);
            System.arraycopy(other.growth, 0, growth, 0, MOST_FOLK);
            System.arraycopy(other.doer, 0, doer, 0, SLOTS);
            System.arraycopy(other.receiver, 0, receiver, 0, SLOTS);
            System.arraycopy(other.sort, 0, sort, 0, SLOTS);
            System.arraycopy(other.weight, 0, weight, 0, SLOTS);
            System.arraycopy(other.given, 0, given, 0, MOST_FAIRS);
            System.arraycopy(other.gotten, 0, gotten, 0, MOST_FAIRS);
            System.arraycopy(other.rate, 0, rate, 0, MOST_FAIRS);
            folks = other.folks;
            beasts = other.beasts;
            fairs = other.fairs;
        }

        private void clear() {
            Arrays.fill(grass, 0);
            Arrays.fill(growth, 0);
            Arrays.fill(doer, 0);
            Arrays.fill(receiver, 0);
            Arrays.fill(sort, 0);
            Arrays.fill(weight, 0);
            folks = 0;
            beasts = 0;
            fairs = 0;
        }

        // A 61st clause needs no test: of 29 clauses one is a folk, beast or fair too many.
        boolean read(Tape in) {
            clear();
            for (int i = 0; i <= in.length; i++) {
                if (in.ended()) {
                    return true;
                }
                if (!readClause(in)) {
                    return false;
                }
            }
            return true;
        }

        private boolean readClause(Tape in) {
            if (in.passesWord("folk")) {
                return readFolk(in);
            }
            if (in.passesWord("beast")) {
                return readBeast(in);
            }
            if (in.passesWord("fair")) {
                return readFair(in);
            }
            return in.fail(CANT_STAND);
        }

        private boolean readFolk(Tape in) {
            int at = folks;
            if (at >= MOST_FOLK) {
                return in.fail(TOO_MANY);
            }
            folks++;
            return readInto(in, grass, at, 0, MOST_GRASS)
                    && readInto(in, growth, at, 0, MOST_GROWTH)
                    && in.expects(';');
        }

        private boolean readBeast(Tape in) {
            int at = beasts;
            if (at >= MOST_BEASTS) {
                return in.fail(TOO_MANY);
            }
            beasts++;
            return readInto(in, doer, at, 0, folks - 1)
                    && readInto(in, receiver, at, 0, folks - 1)
                    && areUnlike(in, doer, receiver, at)
                    && readInto(in, sort, at, 0, KINDS - 1)
                    && readInto(in, weight, at, 1, MOST_WEIGHT)
                    && in.expects(';');
        }

        private boolean readFair(Tape in) {
            int at = fairs;
            if (at >= MOST_FAIRS) {
                return in.fail(TOO_MANY);
            }
            fairs++;
            return readInto(in, given, at, 0, KINDS - 1)
                    && readInto(in, gotten, at, 0, KINDS - 1)
                    && areUnlike(in, given, gotten, at)
                    && readInto(in, rate, at, 1, MOST_RATE)
                    && in.expects(';');
        }

        private static boolean readInto(Tape in, int[] row, int at, int least, int most) {
            int number = in.number(least, most);
            if (number == NONE || at < 0 || at >= row.length) {
                return false;
            }
            row[at] = number;
            return true;
        }

        private static boolean areUnlike(Tape in, int[] one, int[] other, int at) {
            if (at < 0 || at >= one.length || at >= other.length || one[at] == other[at]) {
                return in.fail(NONE_SUCH);
            }
            return true;
        }

        boolean hasFolk(int number) {
            return number >= 0 && number < folks && number < MOST_FOLK;
        }

        boolean hasBeast(int number) {
            return number >= 0 && number < beasts && number < MOST_BEASTS;
        }

        int growthOf(int number) {
            return hasFolk(number) ? growth[number] : 0;
        }

        int doerOf(int number) {
            return hasBeast(number) ? doer[number] : NONE;
        }

        int receiverOf(int number) {
            return hasBeast(number) ? receiver[number] : NONE;
        }

        int kindOf(int number) {
            return hasBeast(number) ? sort[number] : NONE;
        }

        int fairPart(int number, int what) {
            if (number < 0 || number >= fairs || number >= MOST_FAIRS) {
                return NONE;
            }
            return what == 0 ? given[number] : what == 1 ? gotten[number] : rate[number];
        }

        int doneBy(int number) {
            return matching(doer, number);
        }

        int doneFor(int number) {
            return matching(receiver, number);
        }

        int ofKind(int number) {
            return matching(sort, number);
        }

        private int matching(int[] row, int number) {
            int bits = 0;
            for (int beast = 0; beast < beasts && beast < row.length; beast++) {
                if (row[beast] == number) {
                    bits |= 1 << beast;
                }
            }
            return bits;
        }

        /** Those who did one of these beasts for one of these folk. */
        int doersFor(int folkBits, int beastBits) {
            int bits = 0;
            for (int beast = 0; beast < MOST_BEASTS; beast++) {
                if ((beastBits & 1 << beast) != 0 && (folkBits & 1 << receiver[beast]) != 0) {
                    bits |= 1 << doer[beast];
                }
            }
            return bits;
        }

        /** No way of fairs needs a kind twice, so five rounds find the cheapest one. */
        int cheapest(int from, int to) {
            if (from < 0 || from >= KINDS || to < 0 || to >= KINDS) {
                return NONE;
            }
            Arrays.fill(best, NONE);
            best[from] = 1;
            for (int turn = 1; turn < KINDS; turn++) {
                for (int i = 0; i < fairs && i < MOST_FAIRS; i++) {
                    useFair(i);
                }
            }
            return best[to] > MOST_PRICE ? NONE : best[to];
        }

        private void useFair(int number) {
            if (number < 0 || number >= MOST_FAIRS) {
                return;
            }
            int from = given[number];
            int to = gotten[number];
            if (from < 0 || from >= KINDS || to < 0 || to >= KINDS || best[from] == NONE) {
                return;
            }
            int cost = best[from] * rate[number];
            if (best[to] == NONE || cost < best[to]) {
                best[to] = cost;
            }
        }
    }

    /** How much a beast eats: the text's signs in the order in which they are reckoned. */
    private static final class Law {
        // Numbers stand for themselves, so all else is below 0: first what is known of a beast.
        private static final int WEIGHT = -1;
        private static final int KIND = -2;
        private static final int AGE = -3;
        private static final int GRASS = -4;
        private static final int OTHERS = -5;
        private static final int COOL = -6;
        private static final int DAY = -7;
        private static final int BEAST = -8;
        private static final int FACTS = 8;
        private static final int ADD = -9;
        private static final int SUBTRACT = -10;
        private static final int MULTIPLY = -11;
        private static final int DIVIDE = -12;
        private static final int LEAVE = -13;
        private static final int LEAST = -14;
        private static final int MOST = -15;

        final int[] code = new int[LAW_BYTES];
        final int[] stack = new int[LAW_BYTES];
        final int[] facts = new int[FACTS];
        int size = 0;

        Law() {
            setPlain();
        }

        void setPlain() {
            size = 0;
            put(1);
            put(WEIGHT);
            put(10);
            put(DIVIDE);
            put(ADD);
        }

        void take(Law other) {
            System.arraycopy(other.code, 0, code, 0, LAW_BYTES);
            size = other.size;
        }

        private boolean put(int sign) {
            if (size >= 0 && size < LAW_BYTES) {
                code[size] = sign;
                size++;
            }
            return true;
        }

        boolean read(Tape in) {
            size = 0;
            if (!readSum(in, 0)) {
                return false;
            }
            return in.ended() || in.fail(CANT_STAND);
        }

        private boolean readSum(Tape in, int open) {
            if (!readProduct(in, open)) {
                return false;
            }
            for (int i = 0; i <= in.length; i++) {
                int sign = in.passes('+') ? ADD : in.passes('-') ? SUBTRACT : 0;
                if (sign == 0) {
                    return true;
                }
                if (!readProduct(in, open)) {
                    return false;
                }
                put(sign);
            }
            return true;
        }

        private boolean readProduct(Tape in, int open) {
            if (!readUnit(in, open)) {
                return false;
            }
            for (int i = 0; i <= in.length; i++) {
                int sign = in.passes('*') ? MULTIPLY : in.passes('/') ? DIVIDE : in.passes('%') ? LEAVE : 0;
                if (sign == 0) {
                    return true;
                }
                if (!readUnit(in, open)) {
                    return false;
                }
                put(sign);
            }
            return true;
        }

        private boolean readUnit(Tape in, int open) {
            if (in.atNumber()) {
                int number = in.number(0, 999);
                return number != NONE && put(number);
            }
            if (in.passes('(')) {
                if (open >= MOST_OPEN) {
                    return in.fail(TOO_MANY);
                }
                return readSum(in, open + 1) && in.expects(')');
            }
            if (in.passesWord("least")) {
                return readPair(in, open, LEAST);
            }
            if (in.passesWord("most")) {
                return readPair(in, open, MOST);
            }
            int fact = readFact(in);
            return fact == 0 ? in.fail(CANT_STAND) : put(fact);
        }

        private boolean readPair(Tape in, int open, int sign) {
            if (open >= MOST_OPEN) {
                return in.fail(TOO_MANY);
            }
            return in.expects('[') && readSum(in, open + 1)
                    && in.expects(',') && readSum(in, open + 1)
                    && in.expects(']') && put(sign);
        }

        private static int readFact(Tape in) {
            if (in.passesWord("weight")) {
                return WEIGHT;
            }
            if (in.passesWord("kind")) {
                return KIND;
            }
            if (in.passesWord("age")) {
                return AGE;
            }
            if (in.passesWord("grass")) {
                return GRASS;
            }
            if (in.passesWord("others")) {
                return OTHERS;
            }
            if (in.passesWord("cool")) {
                return COOL;
            }
            if (in.passesWord("day")) {
                return DAY;
            }
            return in.passesWord("beast") ? BEAST : 0;
        }

        void tellBeast(int weight, int kind, int age, int beast) {
            facts[-1 - WEIGHT] = weight;
            facts[-1 - KIND] = kind;
            facts[-1 - AGE] = age;
            facts[-1 - BEAST] = beast;
        }

        void tellPlace(int grass, int others, int cool, int day) {
            facts[-1 - GRASS] = grass;
            facts[-1 - OTHERS] = others;
            facts[-1 - COOL] = cool;
            facts[-1 - DAY] = day;
        }

        /** What the beast that was told of last eats in a day. */
        int eaten() {
            int top = 0;
            for (int i = 0; i < size && i < LAW_BYTES; i++) {
                int sign = code[i];
                if (sign >= -FACTS) {
                    if (top < LAW_BYTES) {
                        stack[top] = sign >= 0 ? sign : facts[-1 - sign];
                        top++;
                    }
                } else if (top >= 2) {
                    top--;
                    stack[top - 1] = reckon(sign, stack[top - 1], stack[top]);
                }
            }
            return Math.max(0, Math.min(MOST_EATEN, stack[0]));
        }

        private static int reckon(int sign, int left, int right) {
            switch (sign) {
                case ADD:
                    return left + right;
                case SUBTRACT:
                    return left - right;
                case MULTIPLY:
                    return left * right;
                case DIVIDE:
                    return right == 0 ? 0 : left / right;
                case LEAVE:
                    return right == 0 ? 0 : left % right;
                case LEAST:
                    return left < right ? left : right;
                default:
                    return left > right ? left : right;
            }
        }
    }

    /** The grass that was there after so many days. */
    private static final class Book {
        final int[] grass = new int[BOOK_DAYS + 1];
        int lines = 0;

        Book() {
            clear();
        }

        void clear() {
            Arrays.fill(grass, NONE);
            lines = 0;
        }

        void take(Book other) {
            System.arraycopy(other.grass, 0, grass, 0, BOOK_DAYS + 1);
            lines = other.lines;
        }

        boolean read(Tape in) {
            clear();
            for (int i = 0; i <= in.length; i++) {
                if (in.ended()) {
                    return true;
                }
                if (!readLine(in)) {
                    return false;
                }
            }
            return true;
        }

        private boolean readLine(Tape in) {
            int day = in.number(1, BOOK_DAYS);
            if (day < 1 || day > BOOK_DAYS) {
                return false;
            }
            if (grass[day] != NONE) {
                return in.fail(NONE_SUCH);
            }
            if (lines >= MOST_LINES) {
                return in.fail(TOO_MANY);
            }
            grass[day] = in.number(0, MOST_GRASS);
            if (grass[day] == NONE) {
                return false;
            }
            lines++;
            return in.expects(';');
        }

        boolean hasLine(int day) {
            return day >= 0 && day <= BOOK_DAYS && grass[day] != NONE;
        }

        boolean allows(int day, int found) {
            return day < 0 || day > BOOK_DAYS || grass[day] == NONE || grass[day] == found;
        }

        int lastDay() {
            for (int day = BOOK_DAYS; day > 0; day--) {
                if (grass[day] != NONE) {
                    return day;
                }
            }
            return 0;
        }
    }

    /** Work: its steps in a row, each with the place behind it. */
    private static final class Plan {
        private static final int ASK = 0;
        private static final int DRIVE = 1;
        private static final int KILL = 2;
        private static final int DO = 3;
        private static final int HAY = 4;
        private static final int DAY = 5;
        private static final int AGAIN = 6;
        private static final int MOST_STEPS = 200;

        final int[] step = new int[WORK_BYTES];
        final int[] first = new int[WORK_BYTES];
        final int[] second = new int[WORK_BYTES];
        final int[] behind = new int[WORK_BYTES];
        int size = 0;
        int begun = 0;
        int done = 0;
        int refused = 0;

        boolean read(Tape in, Hills told) {
            size = 0;
            begun = 0;
            done = 0;
            refused = 0;
            return readSteps(in, told, 0);
        }

        private boolean readSteps(Tape in, Hills told, int open) {
            for (int i = 0; i <= in.length; i++) {
                if (open == 0 ? in.ended() : in.passes(']')) {
                    return true;
                }
                if (!readStep(in, told, open) || !in.expects(';')) {
                    return false;
                }
            }
            return true;
        }

        private boolean readStep(Tape in, Hills told, int open) {
            if (in.passesWord("ask")) {
                return readBeast(in, told, ASK);
            }
            if (in.passesWord("drive")) {
                return readDrive(in, told);
            }
            if (in.passesWord("kill")) {
                return readBeast(in, told, KILL);
            }
            if (in.passesWord("do")) {
                return readBeast(in, told, DO);
            }
            if (in.passesWord("hay")) {
                return readHay(in, told);
            }
            if (in.passesWord("day")) {
                return put(DAY, 0, 0);
            }
            if (in.passesWord("again")) {
                return readAgain(in, told, open);
            }
            return in.fail(CANT_STAND);
        }

        private boolean readBeast(Tape in, Hills told, int what) {
            int beast = in.number(0, told.beasts - 1);
            return beast != NONE && put(what, beast, 0);
        }

        private boolean readDrive(Tape in, Hills told) {
            int beast = in.number(0, told.beasts - 1);
            if (beast == NONE) {
                return false;
            }
            int folk = in.number(0, told.folks - 1);
            return folk != NONE && put(DRIVE, beast, folk);
        }

        private boolean readHay(Tape in, Hills told) {
            int folk = in.number(0, told.folks - 1);
            if (folk == NONE) {
                return false;
            }
            int much = in.number(1, 60);
            return much != NONE && put(HAY, folk, much);
        }

        private boolean readAgain(Tape in, Hills told, int open) {
            if (open >= MOST_OPEN) {
                return in.fail(TOO_MANY);
            }
            int times = in.number(0, 60);
            if (times == NONE || !in.expects('[')) {
                return false;
            }
            int at = size;
            put(AGAIN, times, 0);
            if (!readSteps(in, told, open + 1)) {
                return false;
            }
            if (at >= 0 && at < WORK_BYTES) {
                behind[at] = size;
            }
            return true;
        }

        private boolean put(int what, int one, int other) {
            if (size >= 0 && size < WORK_BYTES) {
                step[size] = what;
                first[size] = one;
                second[size] = other;
                size++;
                behind[size - 1] = size;
            }
            return true;
        }

        void carryOut(Meadow on, int from, int to, int open) {
            if (from < 0 || to > WORK_BYTES) {
                return;
            }
            for (int i = from; i < to && begun < MOST_STEPS; i = Math.max(i + 1, behind[i])) {
                begun++;
                if (step[i] == AGAIN) {
                    for (int k = 0; k < first[i] && begun < MOST_STEPS && open < MOST_OPEN; k++) {
                        carryOut(on, i + 1, behind[i], open + 1);
                    }
                } else if (isDone(on, step[i], first[i], second[i])) {
                    done++;
                } else {
                    refused++;
                }
            }
        }

        private static boolean isDone(Meadow on, int what, int one, int other) {
            switch (what) {
                case ASK:
                    return on.askBack(one);
                case DRIVE:
                    return on.driveOver(one, other);
                case KILL:
                    return on.slay(one);
                case DO:
                    return on.doAgain(one);
                case HAY:
                    return on.giveHay(one, other);
                default:
                    if (on.day >= LAST_DAY) {
                        return false;
                    }
                    on.passDay();
                    return true;
            }
        }
    }

    /** The pastures on one day: all that work changes, but for what can be undone. */
    private static final class Meadow {
        static final int ROW = MOST_FOLK + 3 * SLOTS + MOST_FOLK * MOST_FOLK + 2;
        private static final int COOL_CELLS = MOST_FOLK * MOST_FOLK;

        final Hills told;
        final Law diet;
        final int[] grass = new int[MOST_FOLK];
        // 0: the beast is gone, as no beast that is there weighs nothing.
        final int[] weight = new int[SLOTS];
        final int[] stand = new int[SLOTS];
        final int[] days = new int[SLOTS];
        final int[] coolCells = new int[COOL_CELLS];
        final int[] crowd = new int[MOST_FOLK];
        final int[] appetite = new int[SLOTS];
        int strangerKind = 0;
        int day = 0;
        int starved = 0;

        Meadow(Hills told, Law diet) {
            this.told = told;
            this.diet = diet;
            Arrays.fill(stand, NONE);
        }

        void begin() {
            System.arraycopy(told.grass, 0, grass, 0, MOST_FOLK);
            for (int slot = 0; slot < SLOTS; slot++) {
                remove(slot);
                doAgain(slot);
            }
            Arrays.fill(coolCells, 0);
            day = 0;
            starved = 0;
        }

        void copy(Meadow other) {
            System.arraycopy(other.grass, 0, grass, 0, MOST_FOLK);
            System.arraycopy(other.weight, 0, weight, 0, SLOTS);
            System.arraycopy(other.stand, 0, stand, 0, SLOTS);
            System.arraycopy(other.days, 0, days, 0, SLOTS);
            System.arraycopy(other.coolCells, 0, coolCells, 0, COOL_CELLS);
            day = other.day;
            starved = other.starved;
        }

        void store(int[] row, int at) {
            if (at < 0 || at > row.length - ROW) {
                return;
            }
            System.arraycopy(grass, 0, row, at, MOST_FOLK);
            System.arraycopy(weight, 0, row, at + MOST_FOLK, SLOTS);
            System.arraycopy(stand, 0, row, at + MOST_FOLK + SLOTS, SLOTS);
            System.arraycopy(days, 0, row, at + MOST_FOLK + 2 * SLOTS, SLOTS);
            System.arraycopy(coolCells, 0, row, at + MOST_FOLK + 3 * SLOTS, COOL_CELLS);
            row[at + ROW - 2] = day;
            row[at + ROW - 1] = starved;
        }

        void load(int[] row, int at) {
            if (at < 0 || at > row.length - ROW) {
                return;
            }
            System.arraycopy(row, at, grass, 0, MOST_FOLK);
            System.arraycopy(row, at + MOST_FOLK, weight, 0, SLOTS);
            System.arraycopy(row, at + MOST_FOLK + SLOTS, stand, 0, SLOTS);
            System.arraycopy(row, at + MOST_FOLK + 2 * SLOTS, days, 0, SLOTS);
            System.arraycopy(row, at + MOST_FOLK + 3 * SLOTS, coolCells, 0, COOL_CELLS);
            day = row[at + ROW - 2];
            starved = row[at + ROW - 1];
        }

        // ---- steps: each tells whether it could be done ----

        boolean askBack(int beast) {
            if (!isThere(beast)) {
                return false;
            }
            remove(beast);
            return true;
        }

        boolean driveOver(int beast, int folk) {
            if (!isThere(beast) || !told.hasFolk(folk) || stand[beast] == folk) {
                return false;
            }
            stand[beast] = folk;
            return true;
        }

        boolean slay(int beast) {
            if (!isThere(beast)) {
                return false;
            }
            remove(beast);
            makeCooler(told.doerOf(beast), told.receiverOf(beast));
            return true;
        }

        boolean doAgain(int beast) {
            if (!told.hasBeast(beast) || isThere(beast)) {
                return false;
            }
            weight[beast] = told.weight[beast];
            stand[beast] = told.doer[beast];
            days[beast] = 0;
            return true;
        }

        boolean giveHay(int folk, int much) {
            if (!told.hasFolk(folk) || grass[folk] >= MOST_GRASS) {
                return false;
            }
            grass[folk] = Math.min(MOST_GRASS, grass[folk] + much);
            return true;
        }

        private void remove(int slot) {
            if (slot >= 0 && slot < SLOTS) {
                weight[slot] = 0;
                stand[slot] = NONE;
                days[slot] = 0;
            }
        }

        private void makeCooler(int one, int other) {
            int cooler = Math.min(MOST_COOL, coolness(one, other) + 1);
            setCoolness(one, other, cooler);
            setCoolness(other, one, cooler);
        }

        private void setCoolness(int one, int other, int value) {
            if (one >= 0 && one < MOST_FOLK && other >= 0 && other < MOST_FOLK) {
                coolCells[one * MOST_FOLK + other] = value;
            }
        }

        // ---- a day ----

        void passDay() {
            reckonAppetites();
            for (int slot = 0; slot < SLOTS; slot++) {
                if (weight[slot] > 0) {
                    graze(slot);
                }
            }
            for (int folk = 0; folk < MOST_FOLK; folk++) {
                grass[folk] = Math.min(MOST_GRASS, grass[folk] + told.growth[folk]);
            }
            day++;
        }

        void reckonAppetites() {
            Arrays.fill(crowd, 0);
            for (int slot = 0; slot < SLOTS; slot++) {
                int at = stand[slot];
                if (at >= 0 && at < MOST_FOLK) {
                    crowd[at]++;
                }
            }
            for (int slot = 0; slot < SLOTS; slot++) {
                appetite[slot] = weight[slot] > 0 ? appetiteOf(slot) : 0;
            }
        }

        private int appetiteOf(int slot) {
            if (slot < 0 || slot >= SLOTS) {
                return 0;
            }
            int at = stand[slot];
            if (at < 0 || at >= MOST_FOLK) {
                return 0;
            }
            boolean unseen = slot == STRANGER;
            int cool = unseen ? 0 : coolness(told.doer[slot], told.receiver[slot]);
            diet.tellBeast(weight[slot], unseen ? strangerKind : told.sort[slot], days[slot], slot);
            diet.tellPlace(grass[at], crowd[at] - 1, cool, day);
            return diet.eaten();
        }

        private void graze(int slot) {
            if (slot < 0 || slot >= SLOTS) {
                return;
            }
            int at = stand[slot];
            if (at < 0 || at >= MOST_FOLK) {
                return;
            }
            int got = Math.min(appetite[slot], grass[at]);
            grass[at] -= got;
            weight[slot] -= appetite[slot] - got;
            days[slot]++;
            if (weight[slot] <= 0) {
                remove(slot);
                starved++;
            }
        }

        // ---- trials ----

        /** Pastures do not touch one another as days go by, so the others' beasts can be left out. */
        void keepOnly(int folk) {
            for (int slot = 0; slot < SLOTS; slot++) {
                if (stand[slot] != folk) {
                    remove(slot);
                }
            }
        }

        void addStranger(int folk, int kind, int heavy) {
            weight[STRANGER] = heavy;
            stand[STRANGER] = folk;
            days[STRANGER] = 0;
            strangerKind = kind;
        }

        // ---- questions ----

        boolean isThere(int slot) {
            return slot >= 0 && slot < SLOTS && weight[slot] > 0;
        }

        int pastureOf(int slot) {
            return isThere(slot) ? stand[slot] : NONE;
        }

        int ageOf(int slot) {
            return isThere(slot) ? days[slot] : 0;
        }

        int grassOf(int folk) {
            return folk >= 0 && folk < MOST_FOLK ? grass[folk] : 0;
        }

        int coolness(int one, int other) {
            if (one < 0 || one >= MOST_FOLK || other < 0 || other >= MOST_FOLK) {
                return 0;
            }
            return coolCells[one * MOST_FOLK + other];
        }

        int thereBits() {
            int bits = 0;
            for (int beast = 0; beast < MOST_BEASTS; beast++) {
                if (weight[beast] > 0) {
                    bits |= 1 << beast;
                }
            }
            return bits;
        }

        int grazingBits(int folk) {
            int bits = 0;
            for (int beast = 0; beast < MOST_BEASTS; beast++) {
                if (weight[beast] > 0 && stand[beast] == folk) {
                    bits |= 1 << beast;
                }
            }
            return bits;
        }

        int drivenBits() {
            int bits = 0;
            for (int beast = 0; beast < MOST_BEASTS; beast++) {
                if (weight[beast] > 0 && stand[beast] != told.doer[beast]) {
                    bits |= 1 << beast;
                }
            }
            return bits;
        }

        int allGrass() {
            int sum = 0;
            for (int folk = 0; folk < MOST_FOLK; folk++) {
                sum += grass[folk];
            }
            return sum;
        }

        int weightOf(int bits) {
            int sum = 0;
            for (int beast = 0; beast < MOST_BEASTS; beast++) {
                sum += (bits & 1 << beast) != 0 ? weight[beast] : 0;
            }
            return sum;
        }

        int eatenBy(int bits) {
            reckonAppetites();
            return appetiteSum(bits);
        }

        private int appetiteSum(int bits) {
            int sum = 0;
            for (int beast = 0; beast < MOST_BEASTS; beast++) {
                sum += (bits & 1 << beast) != 0 ? appetite[beast] : 0;
            }
            return sum;
        }

        int overrunBits() {
            reckonAppetites();
            int bits = 0;
            for (int folk = 0; folk < MOST_FOLK; folk++) {
                if (appetiteSum(grazingBits(folk)) > grass[folk]) {
                    bits |= 1 << folk;
                }
            }
            return bits;
        }

        int allCoolness() {
            int sum = 0;
            for (int one = 0; one < MOST_FOLK; one++) {
                for (int other = one + 1; other < MOST_FOLK; other++) {
                    sum += coolness(one, other);
                }
            }
            return sum;
        }

        int firstCoolest() {
            int pair = NONE;
            int most = 0;
            for (int one = 0; one < MOST_FOLK; one++) {
                for (int other = one + 1; other < MOST_FOLK; other++) {
                    if (coolness(one, other) > most) {
                        most = coolness(one, other);
                        pair = 10 * one + other;
                    }
                }
            }
            return pair;
        }

        int firstHeaviest() {
            return firstBy(weight, 1);
        }

        int firstLightest() {
            return firstBy(weight, -1);
        }

        int firstOldest() {
            return firstBy(days, 1);
        }

        /** The first of the beasts that are there with the most of this, or, by sign -1, the least. */
        private int firstBy(int[] row, int sign) {
            int first = NONE;
            int most = 0;
            for (int beast = 0; beast < MOST_BEASTS && beast < row.length; beast++) {
                int much = sign * row[beast];
                if (weight[beast] > 0 && (first == NONE || much > most)) {
                    first = beast;
                    most = much;
                }
            }
            return first;
        }

        /** What these folk get, if each gets what is missing to it, but no more than the bound. */
        int givenBelow(int bound, int folkBits) {
            int sum = 0;
            for (int folk = 0; folk < MOST_FOLK; folk++) {
                if ((folkBits & 1 << folk) != 0) {
                    sum += Math.min(bound, MOST_GRASS - grass[folk]);
                }
            }
            return sum;
        }
    }

    /** Works that can be undone, and images: each a row of meadows laid end to end. */
    private static final class Past {
        private static final int IMAGE_ROW = (MOST_WORKS + 1) * Meadow.ROW;

        final int[] workRows = new int[MOST_WORKS * Meadow.ROW];
        final int[] imageRows = new int[MOST_IMAGES * IMAGE_ROW];
        final int[] undoableThen = new int[MOST_IMAGES];
        int undoable = 0;
        int images = 0;

        void clear() {
            undoable = 0;
            images = 0;
        }

        void keepWork(Meadow now) {
            if (undoable >= 0 && undoable < MOST_WORKS) {
                now.store(workRows, undoable * Meadow.ROW);
                undoable++;
            }
        }

        boolean undoWork(Meadow now) {
            if (undoable <= 0) {
                return false;
            }
            undoable--;
            now.load(workRows, undoable * Meadow.ROW);
            return true;
        }

        boolean takeImage(Meadow now) {
            if (images < 0 || images >= MOST_IMAGES) {
                return false;
            }
            int at = images * IMAGE_ROW;
            System.arraycopy(workRows, 0, imageRows, at, MOST_WORKS * Meadow.ROW);
            now.store(imageRows, at + MOST_WORKS * Meadow.ROW);
            undoableThen[images] = undoable;
            images++;
            return true;
        }

        boolean useImage(Meadow now) {
            if (images <= 0 || images > MOST_IMAGES) {
                return false;
            }
            images--;
            int at = images * IMAGE_ROW;
            System.arraycopy(imageRows, at, workRows, 0, MOST_WORKS * Meadow.ROW);
            now.load(imageRows, at + MOST_WORKS * Meadow.ROW);
            undoable = undoableThen[images];
            return true;
        }
    }

    /** Questions about all sets of the beasts that are there. */
    private static final class Herds {
        private static final int SETS = 1 << MOST_BEASTS;
        // No folk is 12 ahead of another: what all owe is one number whose digits are -12 to 12.
        private static final int OWED_BASE = 25;
        // All together eat 240 at most, so weight and food share a number.
        private static final int FOOD = 1024;

        final Hills told;
        final Meadow now;
        final int[] part = new int[MOST_BEASTS];
        final int[] sum = new int[SETS];
        int payments = 0;
        int firstPayment = NONE;

        Herds(Hills told, Meadow now) {
            this.told = told;
            this.now = now;
        }

        /** Sums the parts of each set of these beasts: it is one beast more than a lesser set. */
        private void sumParts(int beasts) {
            sum[0] = 0;
            for (int set = 1; set < SETS; set++) {
                if ((set & ~beasts) == 0) {
                    int lowest = Integer.bitCount((set & -set) - 1);
                    if (lowest < MOST_BEASTS) {
                        sum[set] = sum[set & set - 1] + part[lowest];
                    }
                }
            }
        }

        private static int digitOf(int folk) {
            int digit = 1;
            for (int i = 0; i < folk && i < MOST_FOLK; i++) {
                digit *= OWED_BASE;
            }
            return digit;
        }

        int mostCancelling() {
            int there = now.thereBits();
            for (int beast = 0; beast < MOST_BEASTS; beast++) {
                part[beast] = digitOf(told.doer[beast]) - digitOf(told.receiver[beast]);
            }
            sumParts(there);
            int best = 0;
            for (int set = 1; set < SETS; set++) {
                if ((set & ~there) == 0 && sum[set] == 0 && Integer.bitCount(set) > Integer.bitCount(best)) {
                    best = set;
                }
            }
            return best;
        }

        int heaviestFed(int grass) {
            int there = now.thereBits();
            now.reckonAppetites();
            for (int beast = 0; beast < MOST_BEASTS; beast++) {
                part[beast] = now.weight[beast] * FOOD + now.appetite[beast];
            }
            sumParts(there);
            int best = 0;
            for (int set = 1; set < SETS; set++) {
                if ((set & ~there) == 0 && sum[set] % FOOD <= grass && isBetter(set, best)) {
                    best = set;
                }
            }
            return best;
        }

        private boolean isBetter(int set, int best) {
            if (set < 0 || set >= SETS || best < 0 || best >= SETS) {
                return false;
            }
            int more = sum[set] / FOOD - sum[best] / FOOD;
            return more > 0 || more == 0 && Integer.bitCount(set) < Integer.bitCount(best);
        }

        void findPayments(int beast) {
            payments = 0;
            firstPayment = NONE;
            if (beast < 0 || beast >= MOST_BEASTS || !now.isThere(beast)) {
                return;
            }
            System.arraycopy(now.weight, 0, part, 0, MOST_BEASTS);
            int others = now.thereBits() & ~(1 << beast);
            sumParts(others);
            for (int set = 1; set < SETS; set++) {
                if ((set & ~others) == 0 && sum[set] == now.weight[beast]) {
                    notePayment(set);
                }
            }
        }

        private void notePayment(int set) {
            payments++;
            if (firstPayment == NONE || Integer.bitCount(set) < Integer.bitCount(firstPayment)) {
                firstPayment = set;
            }
        }
    }

    /** What may graze unseen on a pasture, by what the book says of its grass. */
    private static final class Stranger {
        private static final int GRASSES = MOST_GRASS + 1;

        final Meadow now;
        final Meadow trial;
        final Book book;
        final int[] found = new int[BOOK_DAYS + 1];
        final int[] left = new int[(BOOK_DAYS + 1) * GRASSES];
        int pairs = 0;
        int firstPair = NONE;
        int bestDay = NONE;
        int bestLeft = 0;

        Stranger(Meadow now, Meadow trial, Book book) {
            this.now = now;
            this.trial = trial;
            this.book = book;
        }

        void search(int folk) {
            pairs = 0;
            firstPair = NONE;
            int last = book.lastDay();
            for (int kind = 0; kind < KINDS; kind++) {
                for (int weight = 1; weight <= MOST_WEIGHT; weight++) {
                    if (fits(folk, kind, weight, last)) {
                        pairs++;
                        firstPair = firstPair == NONE ? 100 * kind + weight : firstPair;
                    }
                }
            }
        }

        /** Whether the book allows such a beast; the grass of each day is in found then. */
        private boolean fits(int folk, int kind, int weight, int last) {
            trial.copy(now);
            trial.keepOnly(folk);
            trial.addStranger(folk, kind, weight);
            for (int day = 1; day <= last && day <= BOOK_DAYS; day++) {
                trial.passDay();
                found[day] = trial.grassOf(folk);
                if (!book.allows(day, found[day])) {
                    return false;
                }
            }
            return true;
        }

        void chooseDay(int folk) {
            Arrays.fill(left, 0);
            for (int kind = 0; kind < KINDS; kind++) {
                for (int weight = 1; weight <= MOST_WEIGHT; weight++) {
                    if (fits(folk, kind, weight, BOOK_DAYS)) {
                        tally();
                    }
                }
            }
            bestDay = NONE;
            for (int day = 1; day <= BOOK_DAYS; day++) {
                if (!book.hasLine(day)) {
                    weighDay(day);
                }
            }
        }

        private void tally() {
            for (int day = 1; day <= BOOK_DAYS; day++) {
                int at = day * GRASSES + found[day];
                if (at >= 0 && at < left.length) {
                    left[at]++;
                }
            }
        }

        private void weighDay(int day) {
            int worst = 0;
            for (int grass = 0; grass < GRASSES; grass++) {
                int at = day * GRASSES + grass;
                if (at >= 0 && at < left.length) {
                    worst = Math.max(worst, left[at]);
                }
            }
            if (bestDay == NONE || worst < bestLeft) {
                bestDay = day;
                bestLeft = worst;
            }
        }
    }

    /** Days on which chance asks back, does again and drives over. */
    private static final class Decade {
        final Hills told;
        final Meadow now;
        final Meadow trial;
        int seed = 0;

        Decade(Hills told, Meadow now, Meadow trial) {
            this.told = told;
            this.now = now;
            this.trial = trial;
        }

        void pass(int firstSeed, int days, int q) {
            seed = firstSeed;
            trial.copy(now);
            for (int day = 0; day < days; day++) {
                if (told.beasts > 0) {
                    meddle(q);
                }
                trial.passDay();
            }
        }

        private void meddle(int q) {
            int beast = draw(told.beasts);
            if (!trial.askBack(beast)) {
                trial.doAgain(beast);
            }
            if (draw(SIXTEEN) < q) {
                int driven = draw(told.beasts);
                int folk = draw(told.folks);
                trial.driveOver(driven, folk);
            }
        }

        private int draw(int many) {
            seed = seed * 1103515245 + 12345;
            return many > 0 ? (seed >> 16 & 0x7FFF) % many : 0;
        }
    }

    /** What needs no hills. */
    private static final class Reckoning {
        /** What one has who does this, while the other one does that; 0 is the kindness. */
        private static int has(int own, int others, int v, int w) {
            if (own != 0) {
                return 0;
            }
            return others == 0 ? v - w : -w;
        }

        private static boolean rests(int one, int other, int v, int w) {
            return has(1 - one, other, v, w) <= has(one, other, v, w)
                    && has(1 - other, one, v, w) <= has(other, one, v, w);
        }

        static int restsMany(int v, int w) {
            int many = 0;
            for (int both = 0; both < 4; both++) {
                many += rests(both / 2, both % 2, v, w) ? 1 : 0;
            }
            return many;
        }

        static int firstRest(int v, int w) {
            for (int both = 0; both < 4; both++) {
                if (rests(both / 2, both % 2, v, w)) {
                    return 10 * (both / 2) + both % 2;
                }
            }
            return NONE;
        }

        static int togetherAt(int rest, int v, int w) {
            if (rest == NONE) {
                return 0;
            }
            return has(rest / 10, rest % 10, v, w) + has(rest % 10, rest / 10, v, w);
        }

        static long homeFraction(int n, int k, int q, int part) {
            long above = 0;
            long choices = 1;
            for (int lost = 0; lost <= n && lost <= k; lost++) {
                above += choices * power(SIXTEEN - q, lost) * power(q, n - lost);
                choices = choices * (n - lost) / (lost + 1);
            }
            long below = power(SIXTEEN, n);
            // Below stands a power of 2, so nothing but 2 can be cut.
            for (int i = 0; i < 4 * STRAYS && above % 2 == 0 && below % 2 == 0; i++) {
                above /= 2;
                below /= 2;
            }
            return part == 0 ? above : below;
        }

        private static long power(int base, int times) {
            long product = 1;
            for (int i = 0; i < times; i++) {
                product *= base;
            }
            return product;
        }
    }
}
