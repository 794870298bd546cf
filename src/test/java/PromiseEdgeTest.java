import java.io.IOException;

/** The boundary cases that the promises name, sentence by sentence. */
public final class PromiseEdgeTest {
    private static final String ANOTHER_WHAT = "IllegalArgumentException: another what (so below).";
    private static final String NO_SUCH = "NoSuchElementException: no such FOLK, BEAST, FAIR (so below, ahead of others).";
    private static final String LEAST = String.valueOf(Integer.MIN_VALUE);
    private static final String GREATEST = String.valueOf(Integer.MAX_VALUE);

    private final Edges edges;

    private PromiseEdgeTest() throws IOException {
        edges = new Edges("PromiseEdgeTest", false);
    }

    public static void main(String[] args) throws IOException {
        PromiseEdgeTest test = new PromiseEdgeTest();
        test.made();
        test.fed();
        test.hills();
        test.law();
        test.work();
        test.tooManyWorks();
        test.book();
        test.fault();
        test.undo();
        test.told();
        test.folk();
        test.beast();
        test.fairAndCool();
        test.would();
        test.aheadAndBare();
        test.sets();
        test.unseenAndLook();
        test.wayAndPrice();
        test.owingAndHome();
        test.share();
        test.firsts();
        test.coolest();
        test.bits();
        test.decade();
        test.span();
        test.image();
        test.restore();
        test.status();
        test.refused();
        test.count();
        test.edges.finish();
    }

    private void edge(int promise, String sentence, String rows) {
        edges.edge(promise, sentence, rows);
    }

    /** Rows in which N, in the call, is each number just outside, and those farthest out. */
    private static String outside(String call, int least, int most, String due) {
        StringBuilder rows = new StringBuilder();
        for (String number : new String[] {String.valueOf(least - 1), String.valueOf(most + 1), LEAST, GREATEST}) {
            rows.append(call.replace("N", number)).append(" = ").append(due).append('\n');
        }
        return rows.toString();
    }

    private static String whatOutside(String call, int most) {
        return outside(call, 0, most, "IAE");
    }

    private void made() {
        StringBuilder zeros = new StringBuilder();
        for (int what = 0; what < 12; what++) {
            zeros.append("told(").append(what).append(") = 0\n");
        }
        edge(1, "HILLS without CLAUSES.", zeros + """
            folk(0, 0) = NSEE
            beast(0, 0) = NSEE
            fair(0, 0) = NSEE
            cool(0, 0) = NSEE
            bare(0) = NSEE
            herd(0, 0) = NSEE
            paid(0, 0) = NSEE
            unseen(0, 0) = NSEE
            look(0, 0) = NSEE
            way(0, 0) = NSEE
            share(0, 0, 0) = NSEE
            weighs(0, 0) = NSEE
            round(0) = NSEE
            span(0, 1, 1, 0, 0, 0) = IAE
            status(0) = 13
            status(1) = 1
            fault() = -1
            count(0) = 0
            count(1) = 0
            count(2) = 0
            """);
        edge(1, "HILLS without CLAUSES.", """
            would(30, 0, 0, 0, 0, 0, 0, 0) = 4
            ahead(99, 0) = 0
            ahead(99, 1) = 0
            ahead(99, 2) = 0
            cancel() = 0
            price(0, 1) = -1
            price(5, 5) = 1
            heaviest(0) = -1
            heaviest(1) = -1
            oldest(0) = -1
            oldest(1) = -1
            lightest(0) = -1
            lightest(1) = -1
            coolest(0) = -1
            coolest(1) = -1
            overrun() = 0
            good(0) = 0
            good(1) = 0
            good(2) = 0
            kind(0) = 0
            driven() = 0
            decade(0, 96, 16, 0) = 0
            decade(0, 96, 16, 3) = 0
            undo() = -1
            restore() = -1
            image() = 1
            work 'ask 0;' = -8
            work 'day;' = 1
            told(3) = 1
            """);
    }

    private void fed() {
        edge(2, "Twenty bytes come on the TAPE, of each number the highest first: how many there are;", """
            feed(0x666f6c6b, 0x20322033, 0x3b666f6c, 0x6b203420, 0x353b2020) = 20 // folk 2 3;folk 4 5;
            feed(0, 0, 0, 0, 0) = 40
            hills(20) = 0
            folk(0, 0) = 2
            folk(0, 1) = 3
            folk(1, 0) = 4
            folk(1, 1) = 5
            feed(-1, -1, -1, -1, -1) = 20
            hills(20) = -9
            fault() = 0
            feed(0x20202020, -2147483648, 2147483647, 0, 0) = 20
            hills(20) = -9
            fault() = 4
            feed(0x202020ff, 0, 0, 0, 0) = 20
            hills(3) = 0
            feed(0x202020ff, 0, 0, 0, 0) = 20
            hills(4) = -9
            fault() = 3
            """);
        edge(2, "NONE, doing nothing, if there would be more than 600.", Edges.blanksFed(29) + """
            feed(0x20202020, 0x20202020, 0x20202020, 0x20202020, 0x666f6c6b) = 600 // at its end: folk
            feed(0x20202020, 0x20202020, 0x20202020, 0x20202020, 0x20202020) = -1
            count(1) = 600
            feed(0, 0, 0, 0, 0) = -1
            count(1) = 600
            status(0) = 0
            status(1) = 0
            hills(600) = -9 // nothing of it was overwritten
            fault() = 600
            feed(0, 0, 0, 0, 0) = 20
            """);
    }

    private void hills() {
        edge(3, "The first n bytes of the TAPE (empty then) are the HILLS", """
            feed(0x666f6c6b, 0x20322033, 0x3b666f6c, 0x6b203420, 0x353b3b3b) = 20 // folk 2 3;folk 4 5;;;
            hills(9) = 0
            told(0) = 1
            count(1) = 0
            hills(0) = 0
            told(0) = 0
            feed(0x666f6c6b, 0x20322033, 0x3b666f6c, 0x6b203420, 0x353b3b3b) = 20
            hills(18) = 0
            told(0) = 2
            feed(0x666f6c6b, 0x20322033, 0x3b666f6c, 0x6b203420, 0x353b3b3b) = 20
            hills(17) = -9
            fault() = 17
            count(1) = 0
            feed(0x666f6c6b, 0x20322033, 0x3b666f6c, 0x6b203420, 0x353b3b3b) = 20
            hills(0) = 0 // no byte is read, all are gone
            count(1) = 0
            """);
        edge(3, "(DAY 0; no LAW, BOOK, IMAGES, nothing to undo): how many BEASTS;", """
            {two}
            law '7' = 1
            book '1 1;' = 1
            work 'kill 0;kill 0;day;again 20[day;];' = 22
            image() = 1
            {two}
            told(3) = 0
            would(30, 0, 0, 0, 0, 0, 0, 0) = 4
            told(9) = 0
            unseen(0, 0) = 180
            count(0) = 0
            restore() = -1
            count(2) = 0
            undo() = -1
            told(8) = 0
            told(11) = 0
            told(4) = 3
            told(10) = 0
            {twelve}
            hills 'folk 5 0;' = 0 // nothing is left of those who were told ahead
            told(5) = 5
            told(1) = 0
            told(4) = 0
            told(6) = 0
            overrun() = 0
            work 'day;' = 1
            told(5) = 5
            hills '' = 0
            told(5) = 0
            """);
        edge(3, "or the FAULT less 10 (all stays).", """
            {two}
            law '7' = 1
            book '1 1;' = 1
            work 'kill 0;kill 0;day;' = 2
            image() = 1
            hills '?' = -9
            hills 'folk 100 0;' = -8
            hills 'folk 1 1;folk 1 1;folk 1 1;folk 1 1;folk 1 1;folk 1 1;folk 1 1;' = -7
            fault() = 54
            told(0) = 2
            told(1) = 2
            told(3) = 1
            told(4) = 2
            told(9) = 1
            told(10) = 1
            told(11) = 1
            would(30, 0, 0, 0, 0, 0, 0, 0) = 7
            count(0) = 1
            count(2) = 1
            folk(0, 1) = 1
            beast(1, 2) = 5
            undo() = 0
            restore() = 0
            """);
        edge(3, "IllegalArgumentException: n is not 0 to the TAPE's bytes (it stays).", """
            hills(-1) = IAE
            hills(1) = IAE // the TAPE is empty
            feed(0x666f6c6b, 0x20322033, 0x3b666f6c, 0x6b203420, 0x353b2020) = 20
            hills(21) = IAE
            hills(-1) = IAE
            hills(-2147483648) = IAE
            hills(2147483647) = IAE
            count(1) = 20
            told(0) = 0
            status(1) = 6
            hills(20) = 0
            told(0) = 2
            hills(20) = IAE
            told(0) = 2
            """);
    }

    private void law() {
        edge(4, "Likewise the LAW (n to 150): 1.", """
            feed(0x31322b36, 0x20202020, 0x20202020, 0x20202020, 0x20202020) = 20 // 12+6
            law(1) = 1
            would(1, 0, 0, 0, 0, 0, 0, 0) = 1
            count(1) = 0
            feed(0x31322b36, 0x20202020, 0x20202020, 0x20202020, 0x20202020) = 20
            law(20) = 1
            would(1, 0, 0, 0, 0, 0, 0, 0) = 18
            feed(0x31322b36, 0x20202020, 0x20202020, 0x20202020, 0x20202020) = 20
            law(3) = -9 // all stays, but for the TAPE
            fault() = 3
            count(1) = 0
            would(1, 0, 0, 0, 0, 0, 0, 0) = 18
            law '1000' = -8
            law '(((((((1)))))))' = -7
            would(1, 0, 0, 0, 0, 0, 0, 0) = 18
            law(0) = -9
            fault() = 0
            """);
        edge(4, "Likewise the LAW (n to 150): 1.", """
            law(1) = IAE
            law(-1) = IAE
            """ + Edges.blanksFed(8) + """
            law(161) = IAE
            law(160) = IAE
            law(151) = IAE
            law(-1) = IAE
            law(-2147483648) = IAE
            law(2147483647) = IAE
            count(1) = 160
            status(1) = 8
            law(150) = -9
            fault() = 150
            count(1) = 0
            """);
        edge(4, "Likewise the LAW (n to 150): 1.", """
            {two}
            work 'day;' = 1
            image() = 1
            book '1 1;' = 1
            law '7' = 1 // nothing else begins anew
            told(3) = 1
            told(9) = 1
            count(0) = 1
            count(2) = 1
            beast(0, 6) = 7
            undo() = 0
            beast(0, 6) = 7
            """);
    }

    private void work() {
        edge(5, "Likewise WORK (n to 150), which is done:", """
            work(1) = IAE
            work(-1) = IAE
            """ + Edges.blanksFed(8) + """
            work(161) = IAE
            work(151) = IAE
            work(-2147483648) = IAE
            work(2147483647) = IAE
            count(1) = 160
            count(2) = 0
            status(1) = 6
            work(150) = 0
            count(1) = 0
            count(2) = 1
            feed(0x6461793b, 0x6461793b, 0x6461793b, 0x6461793b, 0x6461793b) = 20 // day; five times
            work(8) = 2
            told(3) = 2
            count(1) = 0
            """);
        edge(5, "how many STEPS were done (agains not counted, nor REFUSED ones);", """
            {two}
            work '' = 0
            work 'again 3[again 2[];];' = 0
            work 'do 0;do 1;drive 0 0;' = 0
            told(10) = 3
            work 'again 3[day;do 0;];ask 0;ask 0;' = 4
            told(10) = 4
            """);
        edge(5, "or the FAULT less 10 (none is);", """
            {two}
            work 'kill 0;kill 0;' = 1
            work 'day;hay 0 1;ask 1' = -9
            fault() = 17
            work 'day;hay 0 1;ask 2;' = -8
            fault() = 16
            work 'day;again 1[again 1[again 1[again 1[again 1[again 1[again 1[];];];];];];];' = -7
            fault() = 52
            told(3) = 0
            folk(0, 0) = 10
            told(4) = 2
            told(10) = 1
            count(1) = 0
            count(2) = 1
            """);
    }

    private void tooManyWorks() {
        String sentence = "-20 ahead of that (nothing is read, there is no FAULT, the TAPE is empty then): 16 WORKS are there"
            + " that were not undone.";
        String fifteen = "work 'hay 0 1;' = 1\n".repeat(15);
        edge(5, sentence, "{two}\n" + fifteen + """
            count(2) = 15
            work 'hay 0 1;hay 0 60;hay 0 60;hay 0 1;' = 3
            count(2) = 16
            law '?' = -9
            fault() = 0
            work '?' = -20 // ahead of the FAULT
            fault() = -1
            count(1) = 0
            work 'day;' = -20
            work '' = -20
            told(3) = 0
            told(10) = 1
            count(2) = 16
            undo() = 15
            folk(0, 0) = 25
            work '?' = -9
            fault() = 0
            count(2) = 15
            work 'day;' = 1
            work 'day;' = -20
            told(3) = 1
            """);
        // Works that did nothing are there, too; images bring back how many there were.
        edge(5, sentence, "{two}\nimage() = 1\n" + "work '' = 0\n".repeat(14) + """
            work 'do 0;' = 0
            image() = 2
            work 'day;' = 1
            work 'day;' = -20
            restore() = 1
            count(2) = 15
            work 'day;' = 1
            work 'day;' = -20
            restore() = 0
            count(2) = 0
            work 'day;' = 1
            count(2) = 1
            """);
        edge(5, sentence, "{two}\n" + fifteen + """
            work '' = 0
            work '' = -20
            {two}
            work '' = 0
            """);
    }

    private void book() {
        edge(6, "Likewise the BOOK (n to 60): how many lines.", """
            book(1) = IAE
            book(-1) = IAE
            """ + Edges.blanksFed(4) + """
            book(81) = IAE
            book(80) = IAE
            book(61) = IAE
            book(-2147483648) = IAE
            book(2147483647) = IAE
            count(1) = 80
            status(1) = 7
            book(60) = 0
            count(1) = 0
            feed(0x3120323b, 0x3220333b, 0x3320343b, 0x3420353b, 0x3520363b) = 20 // 1 2;2 3;3 4;4 5;5 6;
            book(8) = 2
            told(9) = 2
            feed(0x3120323b, 0x3220333b, 0x3320343b, 0x3420353b, 0x3520363b) = 20
            book(20) = 5
            feed(0x3120323b, 0x3220333b, 0x3320343b, 0x3420353b, 0x3520363b) = 20
            book(19) = -9
            fault() = 19
            count(1) = 0
            told(9) = 5
            book '13 1;' = -8
            book '1 1;2 1;3 1;4 1;5 1;6 1;7 1;' = -7
            told(9) = 5
            book(0) = 0
            told(9) = 0
            """);
        edge(6, "Likewise the BOOK (n to 60): how many lines.", """
            {two}
            law '0' = 1
            work 'day;' = 1
            image() = 1
            book '1 12;' = 1
            unseen(0, 0) = 180
            book '1 13;' = 1 // the one ahead is forgotten
            unseen(0, 0) = 0
            told(9) = 1
            count(0) = 1
            count(2) = 1
            undo() = 0
            restore() = 0
            told(9) = 1
            """);
    }

    private void fault() {
        edge(7, "The place of the FAULT of the latest text; NONE without.", """
            fault() = -1
            hills '   ?' = -9
            fault() = 3
            fault() = 3
            hills '' = 0
            fault() = -1
            law '1 1' = -9
            fault() = 2
            law '1' = 1
            fault() = -1
            work 'day;x' = -9
            fault() = 4
            work '' = 0
            fault() = -1
            book '1 100;' = -8
            fault() = 2
            book '' = 0
            fault() = -1
            book '?' = -9
            fault() = 0
            undo() = 0
            image() = 1
            restore() = 0
            feed(0, 0, 0, 0, 0) = 20
            told(12) = IAE
            hills(21) = IAE
            fault() = 0
            law(0) = -9
            fault() = 0
            """);
    }

    private void undo() {
        edge(8, "The latest WORK that was done is undone: how many are left; -1: there is none.", """
            undo() = -1
            {two}
            undo() = -1
            work 'kill 0;day;hay 0 60;drive 1 0;' = 4
            work 'day;' = 1
            work '?' = -9 // was not done
            undo() = 1
            told(3) = 1
            undo() = 0
            told(3) = 0
            told(4) = 3
            told(5) = 30
            told(11) = 0
            beast(1, 4) = 1
            beast(1, 5) = 0
            count(2) = 0
            undo() = -1
            told(4) = 3
            work '' = 0
            undo() = 0
            undo() = -1
            status(0) = 0
            status(1) = 0
            """);
        StringBuilder rows = new StringBuilder("{two}\n" + "work 'hay 0 1;' = 1\n".repeat(16));
        for (int left = 15; left >= 0; left--) {
            rows.append("undo() = ").append(left).append("\nfolk(0, 0) = ").append(10 + left).append('\n');
        }
        edge(8, "how many are left; -1: there is none.", rows + "undo() = -1\nfolk(0, 0) = 10\n");
        edge(8, "The latest WORK that was done is undone:", """
            hills 'folk 0 0;folk 0 0;beast 0 1 0 1;' = 1
            work 'day;' = 1
            told(8) = 1
            law '9' = 1
            book '1 1;' = 1
            undo() = 0
            told(8) = 0
            beast(0, 3) = 1
            beast(0, 4) = 0
            beast(0, 6) = 9 // LAW and BOOK are no WORK
            told(9) = 1
            hills 'folk 9 9;folk 0 0;beast 0 1 0 9;beast 1 0 0 1;' = 2
            work 'day;day;day;' = 3
            work 'ask 0;do 0;do 1;day;' = 4
            told(8) = 2
            beast(0, 5) = 1
            undo() = 1
            told(8) = 1
            told(3) = 3
            beast(0, 5) = 3
            """);
    }

    private void told() {
        String full = "hills '" + "folk 99 9;".repeat(6) + "beast 0 1 5 30;".repeat(12) + "fair 0 1 1;".repeat(10) + "' = 12\n";
        edge(9, "0 FOLK, 1 BEASTS (told ones), 2 FAIRS, 3 the DAY, 4 BEASTS that are there (bits), 5 GRASS of all together,"
            + " 6 WEIGHTS together of all that is there, 7 EATS together of all that is there,", full + """
            told(0) = 6
            told(1) = 12
            told(2) = 10
            told(3) = 0
            told(4) = 4095
            told(5) = 594
            told(6) = 360
            law '999' = 1
            told(7) = 240
            work 'ask 0;ask 11;' = 2
            told(1) = 12
            told(4) = 2046
            told(6) = 300
            told(7) = 200
            work 'again 10[ask 1;ask 2;ask 3;ask 4;ask 5;ask 6;ask 7;ask 8;ask 9;ask 10;];' = 10
            told(10) = 90
            told(4) = 0
            told(6) = 0
            told(7) = 0
            told(5) = 594
            """);
        edge(9, "8 how many STARVED by now, 9 lines of the BOOK,", """
            hills 'folk 0 0;folk 0 0;beast 0 1 0 1;beast 0 1 0 1;' = 2
            told(8) = 0
            work 'ask 1;day;' = 2
            told(8) = 1 // who is asked back, or killed, does not starve
            work 'do 0;do 1;kill 1;day;' = 4
            told(8) = 2
            told(9) = 0
            book '1 1;2 1;3 1;4 1;5 1;6 1;' = 6
            told(9) = 6
            """);
        edge(9, "10 STEPS REFUSED by the latest WORK (0 ahead of any, behind undo(), restore()),", """
            told(10) = 0
            {two}
            image() = 1
            work 'do 0;do 0;' = 0
            told(10) = 2
            work 'do 0;day;' = 1
            told(10) = 1
            undo() = 1
            told(10) = 0
            work 'do 0;' = 0
            told(10) = 1
            restore() = 0
            told(10) = 0
            work 'do 0;' = 0
            told(10) = 1
            work '' = 0
            told(10) = 0
            work 'again 60[do 0;do 0;do 0;];again 60[do 0;];' = 0
            told(10) = 198
            """);
        edge(9, "11 how cool all are together (each two once).", """
            hills 'folk 0 0;folk 0 0;folk 0 0;beast 0 1 0 1;beast 1 0 0 1;beast 2 1 0 1;beast 0 2 0 1;' = 4
            told(11) = 0
            work 'kill 0;' = 1
            told(11) = 1
            work 'kill 1;kill 2;kill 3;' = 3
            told(11) = 4
            work 'again 9[do 0;kill 0;do 2;kill 2;do 3;kill 3;];' = 54
            told(11) = 27
            """);
        edge(9, ANOTHER_WHAT, whatOutside("told(N)", 11) + "status(1) = 4\n");
    }

    private void folk() {
        edge(10, "Of FOLK: 0 GRASS, 1 R, 2 BEASTS on the pasture (bits), 3 BEASTS that are there of which it is A (bits),"
            + " 4 those of which it is B (bits), 5 EATS together of those on the pasture.", """
            {two}
            folk(0, 0) = 10
            folk(0, 1) = 1
            folk(0, 2) = 1
            folk(0, 3) = 1
            folk(0, 4) = 2
            folk(0, 5) = 2
            work 'drive 0 1;' = 1
            folk(0, 2) = 0
            folk(0, 3) = 1
            folk(0, 5) = 0
            folk(1, 2) = 3
            folk(1, 4) = 1
            folk(1, 5) = 5
            work 'ask 0;' = 1
            folk(0, 3) = 0
            folk(1, 2) = 2
            folk(1, 4) = 0
            """ + whatOutside("folk(1, N)", 5));
        edge(10, NO_SUCH, "{two}\n" + outside("folk(N, 0)", 0, 1, "NSEE") + outside("folk(N, 6)", 0, 1, "NSEE") + """
            status(0) = 8
            status(1) = 0
            """);
    }

    private void beast() {
        String sentence = "Of a BEAST: 0 A, 1 B, 2 K, 3 WEIGHT (0: it is gone), 4 whose pasture it is on (NONE: it is gone),"
            + " 5 its age (0: it is gone), 6 what it EATS (0: it is gone).";
        edge(11, sentence, """
            {two}
            work 'day;drive 1 0;' = 2
            beast(1, 0) = 1
            beast(1, 1) = 0
            beast(1, 2) = 5
            beast(1, 3) = 20
            beast(1, 4) = 0
            beast(1, 5) = 1
            beast(1, 6) = 3
            work 'ask 1;' = 1
            beast(1, 0) = 1
            beast(1, 1) = 0
            beast(1, 2) = 5
            beast(1, 3) = 0
            beast(1, 4) = -1
            beast(1, 5) = 0
            beast(1, 6) = 0
            work 'do 1;kill 1;' = 2
            beast(1, 3) = 0
            beast(1, 4) = -1
            beast(1, 5) = 0
            beast(1, 6) = 0
            law '20' = 1
            beast(1, 6) = 0
            work 'ask 0;day;' = 2
            beast(0, 5) = 0
            """);
        edge(11, sentence, "{two}\n" + whatOutside("beast(1, N)", 6) + outside("beast(N, 0)", 0, 1, "NSEE")
            + outside("beast(N, 7)", 0, 1, "NSEE") + "status(0) = 8\nstatus(1) = 4\n");
        edge(11, sentence, """
            hills 'folk 0 9;folk 0 0;beast 0 1 4 1;' = 1
            work 'day;' = 1 // it starved
            beast(0, 0) = 0
            beast(0, 2) = 4
            beast(0, 3) = 0
            beast(0, 4) = -1
            beast(0, 5) = 0
            beast(0, 6) = 0
            """);
    }

    private void fairAndCool() {
        edge(12, "Of a FAIR: 0 K, 1 L, 2 N.", """
            hills 'fair 0 5 1;fair 5 0 9;' = 0
            fair(0, 0) = 0
            fair(0, 1) = 5
            fair(0, 2) = 1
            fair(1, 0) = 5
            fair(1, 1) = 0
            fair(1, 2) = 9
            """ + whatOutside("fair(1, N)", 2) + outside("fair(N, 0)", 0, 1, "NSEE") + outside("fair(N, 3)", 0, 1, "NSEE"));
        edge(13, "How cool two FOLK are (0: one of them and itself).", """
            {two}
            cool(0, 1) = 0
            work 'again 10[kill 0;do 0;];' = 20
            cool(0, 1) = 9
            cool(1, 0) = 9
            cool(0, 0) = 0
            cool(1, 1) = 0
            """ + outside("cool(N, 0)", 0, 1, "NSEE") + outside("cool(0, N)", 0, 1, "NSEE") + "cool(2, 2) = NSEE\nstatus(0) = 9\n");
    }

    private void would() {
        String sentence = "EATS by the LAW for such weight (1 to 30), kind (0 to 5), age (0 to 999), grass (0 to 99), others (0 to 12),"
            + " cool (0 to 9), day (0 to 400), beast (0 to 12).";
        edge(14, sentence, """
            law 'weight' = 1
            would(1, 0, 0, 0, 0, 0, 0, 0) = 1
            would(30, 0, 0, 0, 0, 0, 0, 0) = 20
            law 'weight / 10' = 1
            would(30, 0, 0, 0, 0, 0, 0, 0) = 3
            law 'kind' = 1
            would(30, 0, 999, 99, 12, 9, 400, 12) = 0
            would(1, 5, 0, 0, 0, 0, 0, 0) = 5
            law 'age - 990' = 1
            would(1, 0, 999, 0, 0, 0, 0, 0) = 9
            law 'age' = 1
            would(30, 5, 0, 99, 12, 9, 400, 12) = 0
            law 'grass - 90' = 1
            would(1, 0, 0, 99, 0, 0, 0, 0) = 9
            law 'grass' = 1
            would(30, 5, 999, 0, 12, 9, 400, 12) = 0
            law 'others' = 1
            would(30, 5, 999, 99, 0, 9, 400, 12) = 0
            would(1, 0, 0, 0, 12, 0, 0, 0) = 12
            law 'cool' = 1
            would(30, 5, 999, 99, 12, 0, 400, 12) = 0
            would(1, 0, 0, 0, 0, 9, 0, 0) = 9
            law 'day' = 1
            would(30, 5, 999, 99, 12, 9, 0, 12) = 0
            law 'day - 390' = 1
            would(1, 0, 0, 0, 0, 0, 400, 0) = 10
            law 'beast' = 1
            would(30, 5, 999, 99, 12, 9, 400, 0) = 0
            would(1, 0, 0, 0, 0, 0, 0, 12) = 12
            """);
        edge(14, sentence, outside("would(N, 0, 0, 0, 0, 0, 0, 0)", 1, 30, "IAE") + whatOutside("would(1, N, 0, 0, 0, 0, 0, 0)", 5)
            + whatOutside("would(1, 0, N, 0, 0, 0, 0, 0)", 999) + whatOutside("would(1, 0, 0, N, 0, 0, 0, 0)", 99)
            + whatOutside("would(1, 0, 0, 0, N, 0, 0, 0)", 12) + whatOutside("would(1, 0, 0, 0, 0, N, 0, 0)", 9)
            + whatOutside("would(1, 0, 0, 0, 0, 0, N, 0)", 400) + whatOutside("would(1, 0, 0, 0, 0, 0, 0, N)", 12)
            + "status(1) = 32\n");
        // No such beast, no such folk need be there.
        edge(14, sentence, "would(10, 5, 999, 99, 12, 9, 400, 12) = 2\n");
    }

    private void aheadAndBare() {
        edge(15, "In n DAYS (0 to 99), nothing else being done: 0 GRASS of all together, 1 BEASTS that are there (bits),"
            + " 2 WEIGHTS together of these.", """
            hills 'folk 9 0;folk 90 9;folk 0 1;beast 0 1 0 3;beast 0 1 0 30;' = 2
            law '3' = 1
            ahead(0, 0) = 99
            ahead(0, 1) = 3
            ahead(0, 2) = 33
            ahead(1, 0) = 103
            ahead(2, 0) = 101 // 3 were left: the second one gets none, and is lighter
            ahead(2, 2) = 30
            ahead(3, 1) = 2 // the first one, of 3, gets none
            ahead(3, 2) = 24
            ahead(10, 2) = 3
            ahead(11, 1) = 0
            ahead(99, 0) = 198
            ahead(99, 1) = 0
            ahead(99, 2) = 0
            told(3) = 0
            told(8) = 0
            """);
        edge(15, "In n DAYS (0 to 99)", "{two}\n" + whatOutside("ahead(N, 0)", 99) + whatOutside("ahead(1, N)", 2)
            + "status(1) = 8\ntold(3) = 0\n");
        edge(16, "BARE.", """
            hills 'folk 0 0;folk 99 0;beast 1 0 0 30;' = 1
            bare(0) = 0
            law '1' = 1
            bare(1) = 99
            law 'least[1, age]' = 1
            bare(1) = -1
            law '0' = 1
            bare(1) = -1
            """ + outside("bare(N)", 0, 1, "NSEE"));
    }

    private void sets() {
        edge(17, "CANCEL, as bits.", """
            cancel() = 0
            {two}
            cancel() = 3
            work 'ask 1;' = 1
            cancel() = 0
            {twelve}
            cancel() = 4095
            work 'ask 0;' = 1
            cancel() = 2046
            work 'ask 1;ask 2;ask 3;ask 4;ask 5;ask 6;ask 7;ask 8;ask 9;ask 10;' = 10
            cancel() = 0
            work 'ask 11;' = 1
            cancel() = 0
            """);
        edge(18, "HERD: 0 WEIGHTS together, 1 the BEASTS (bits).", """
            {twelve}
            herd(0, 0) = 78
            herd(0, 1) = 4095
            law '20' = 1
            herd(0, 0) = 42 // 4 of them: 12, 11, 10, 9
            herd(0, 1) = 3840
            hills 'folk 1 0;folk 0 0;beast 0 1 0 8;beast 0 1 0 9;' = 2
            herd(0, 0) = 9 // heavier by 1
            herd(0, 1) = 2
            hills 'folk 0 0;folk 1 0;beast 0 1 0 30;' = 1
            herd(0, 0) = 0
            herd(0, 1) = 0
            herd(1, 0) = 0
            law '1' = 1
            herd(1, 0) = 30
            herd(1, 1) = 1
            work 'ask 0;' = 1
            herd(1, 0) = 0
            herd(1, 1) = 0
            """ + whatOutside("herd(1, N)", 1) + outside("herd(N, 0)", 0, 1, "NSEE") + outside("herd(N, 2)", 0, 1, "NSEE"));
        edge(19, "PAID: 0 how many sets, 1 the first (bits; NONE).", """
            {two}
            paid(0, 0) = 0
            paid(0, 1) = -1
            hills 'folk 0 0;folk 0 0;beast 0 1 0 2;beast 0 1 0 1;beast 0 1 0 1;' = 3
            paid(0, 0) = 1
            paid(0, 1) = 6
            paid(1, 0) = 1
            paid(1, 1) = 4
            hills 'folk 0 0;folk 0 0;beast 0 1 0 1;beast 0 1 0 2;beast 0 1 0 3;beast 0 1 0 3;beast 0 1 0 1;' = 5
            paid(2, 0) = 3 // 0 and 1, 1 and 4, 3
            paid(2, 1) = 8 // the fewest, though of more bits
            paid(4, 0) = 1
            paid(4, 1) = 1
            """ + whatOutside("paid(2, N)", 1) + outside("paid(N, 0)", 0, 4, "NSEE") + outside("paid(N, 2)", 0, 4, "NSEE"));
        StringBuilder ones = new StringBuilder("hills 'folk 0 0;folk 0 0;beast 0 1 0 5;");
        ones.append("beast 0 1 0 1;".repeat(11)).append("' = 12\n");
        edge(19, "PAID: 0 how many sets, 1 the first (bits; NONE).", ones + "paid(0, 0) = 462 // 5 of 11\npaid(0, 1) = 62\n");
        edge(19, "A BEAST that is gone: 0, NONE.", """
            hills 'folk 0 0;folk 0 0;beast 0 1 0 2;beast 0 1 0 1;beast 0 1 0 1;' = 3
            work 'ask 0;' = 1
            paid(0, 0) = 0
            paid(0, 1) = -1
            paid(0, 2) = IAE
            work 'do 0;ask 1;' = 2
            paid(0, 0) = 0
            paid(0, 1) = -1
            work 'ask 2;ask 0;' = 2
            paid(0, 0) = 0 // not by the set of none
            paid(0, 1) = -1
            """);
    }

    private void unseenAndLook() {
        edge(20, "UNSEEN: 0 how many pairs, 1 the first (100 times KIND, and WEIGHT; NONE).", """
            hills 'folk 90 0;folk 0 0;' = 0
            unseen(0, 0) = 180
            unseen(0, 1) = 1
            law 'kind / 5 * (weight / 30)' = 1
            book '1 89;' = 1
            unseen(0, 0) = 1
            unseen(0, 1) = 530
            book '1 90;' = 1
            unseen(0, 0) = 179
            unseen(0, 1) = 1
            book '1 91;' = 1
            unseen(0, 0) = 0
            unseen(0, 1) = -1
            book '1 0;' = 1
            unseen(1, 0) = 180
            """ + whatOutside("unseen(1, N)", 1) + outside("unseen(N, 0)", 0, 1, "NSEE") + outside("unseen(N, 2)", 0, 1, "NSEE"));
        edge(21, "LOOK: 0 the DAY, 1 how many pairs are left at the worst.", """
            hills 'folk 90 0;folk 0 0;' = 0
            law '0' = 1
            look(0, 0) = 1
            look(0, 1) = 180
            book '12 89;' = 1
            look(0, 0) = 1
            look(0, 1) = 0
            book '1 90;3 90;5 90;2 90;4 90;12 90;' = 6
            look(0, 0) = 6
            look(0, 1) = 180
            book '' = 0
            law 'age / 11 * kind' = 1
            look(0, 0) = 12
            look(0, 1) = 30
            law 'kind * 3 + weight / 11' = 1
            look(0, 0) = 1
            look(0, 1) = 11
            hills 'folk 99 9;folk 0 0;' = 0
            law '0' = 1
            look(0, 0) = 1 // whatever there is: 99, too, and none
            look(0, 1) = 180
            look(1, 0) = 1
            look(1, 1) = 180
            law '9 + kind / 3' = 1
            look(0, 0) = 1
            look(0, 1) = 90
            """ + whatOutside("look(1, N)", 1) + outside("look(N, 0)", 0, 1, "NSEE") + outside("look(N, 2)", 0, 1, "NSEE"));
    }

    private void wayAndPrice() {
        edge(22, "WAY (0: one of them).", """
            {two}
            way(0, 0) = 0
            way(1, 1) = 0
            way(0, 1) = 1
            work 'ask 1;' = 1
            way(0, 1) = -1
            way(1, 0) = 1
            way(0, 0) = 0
            """ + outside("way(N, 0)", 0, 1, "NSEE") + outside("way(0, N)", 0, 1, "NSEE") + "way(2, 2) = NSEE\n");
        edge(23, "PRICE (KINDS 0 to 5).", """
            hills 'fair 0 5 9;fair 5 0 1;' = 0
            price(0, 0) = 1
            price(5, 5) = 1
            price(0, 5) = 9
            price(5, 0) = 1
            price(1, 2) = -1
            hills 'fair 4 5 2;fair 3 4 2;fair 2 3 2;fair 1 2 2;fair 0 1 2;' = 0
            price(0, 5) = 32
            price(5, 0) = -1
            """ + whatOutside("price(N, 0)", 5) + whatOutside("price(0, N)", 5) + "price(6, 6) = IAE\nstatus(1) = 9\n");
        edge(36, "FOLK (bits) to whom one comes by a WAY from FOLK (themselves, too).", """
            hills 'folk 0 0;' = 0
            round(0) = 1
            hills 'folk 0 0;folk 0 0;folk 0 0;folk 0 0;folk 0 0;folk 0 0;beast 1 0 0 1;beast 2 1 0 1;beast 3 2 0 1;beast 4 3 0 1;beast 5 4 0 1;' = 5
            round(0) = 63
            round(5) = 32
            round(3) = 56
            work 'ask 0;' = 1
            round(0) = 1
            round(1) = 62
            """ + outside("round(N)", 0, 5, "NSEE"));
    }

    private void owingAndHome() {
        edge(24, "OWING by v, w (0 to 99): 0 how many RESTS, 1 the first (10 times what the one does, 0 the kindness, 1 none,"
            + " and the other one; NONE), 2 what both have by it together (0 without).", """
            owing(0, 0, 0) = 4
            owing(0, 0, 1) = 0
            owing(0, 0, 2) = 0
            owing(99, 99, 0) = 2
            owing(99, 99, 1) = 0
            owing(99, 99, 2) = 0
            owing(99, 0, 0) = 2
            owing(99, 0, 1) = 0
            owing(99, 0, 2) = 198
            owing(0, 99, 0) = 1
            owing(0, 99, 1) = 11
            owing(0, 99, 2) = 0
            owing(98, 99, 1) = 11
            owing(99, 98, 2) = 2
            """ + whatOutside("owing(N, 0, 0)", 99) + whatOutside("owing(0, N, 0)", 99) + whatOutside("owing(0, 0, N)", 2)
            + "status(1) = 12\n");
        edge(25, "HOME of n (0 to 12), k (0 to 12), q (0 to 16): above (part 0), below (part 1), in least terms.", """
            home(0, 0, 0, 0) = 1
            home(0, 0, 0, 1) = 1
            home(12, 12, 16, 0) = 1
            home(12, 12, 16, 1) = 1
            home(12, 0, 0, 0) = 0 // none above: 0 of 1
            home(12, 0, 0, 1) = 1
            home(12, 0, 8, 0) = 1
            home(12, 0, 8, 1) = 4096
            home(12, 0, 15, 0) = 129746337890625
            home(12, 0, 15, 1) = 281474976710656
            home(1, 0, 12, 0) = 3
            home(1, 0, 12, 1) = 4
            home(1, 0, 6, 0) = 3
            home(1, 0, 6, 1) = 8
            """ + whatOutside("home(N, 0, 0, 0)", 12) + whatOutside("home(0, N, 0, 0)", 12) + whatOutside("home(0, 0, N, 0)", 16)
            + whatOutside("home(0, 0, 0, N)", 1) + "status(1) = 16\n");
    }

    private void share() {
        edge(26, "What FOLK get of n (0 to 999) by SHARES among told FOLK (0, if it is none of them).", """
            hills 'folk 0 0;folk 0 0;folk 99 0;' = 0
            share(0, 1, 0) = 0
            share(0, 1, 1) = 1
            share(0, 1, 98) = 98
            share(0, 1, 99) = 99
            share(0, 1, 999) = 99
            share(0, 3, 999) = 99
            share(0, 3, 197) = 98
            share(0, 3, 198) = 99
            share(1, 1, 999) = 0
            share(0, 6, 999) = 0
            share(2, 7, 999) = 0
            share(0, 0, 999) = 0 // none is told
            """ + whatOutside("share(0, 1, N)", 999));
        edge(26, "IllegalArgumentException: bits of no FOLK.", """
            hills 'folk 0 0;folk 0 0;folk 99 0;' = 0
            share(0, 7, 1) = 0
            share(0, 8, 1) = IAE
            share(0, 9, 1) = IAE
            share(0, -1, 1) = IAE
            share(0, -2147483648, 1) = IAE
            share(0, 2147483647, 1) = IAE
            share(1, 8, 1) = IAE
            status(1) = 6
            """ + outside("share(N, 1, 1)", 0, 2, "NSEE") + outside("share(N, 8, 1000)", 0, 2, "NSEE") + """
            status(0) = 8
            status(1) = 6
            hills 'folk 0 0;folk 0 0;folk 0 0;folk 0 0;folk 0 0;folk 0 0;' = 0
            share(5, 63, 999) = 99
            share(5, 63, 6) = 1
            share(5, 63, 5) = 0
            share(5, 64, 5) = IAE
            """);
    }

    private void firsts() {
        edge(27, "The heaviest BEAST that is there (what 0), of alike ones the first, its WEIGHT (1); NONE both: there are none.", """
            heaviest(0) = -1
            heaviest(1) = -1
            hills 'folk 0 0;folk 0 0;beast 0 1 0 1;beast 0 1 0 30;beast 0 1 0 30;' = 3
            heaviest(0) = 1
            heaviest(1) = 30
            work 'ask 1;' = 1
            heaviest(0) = 2
            work 'ask 2;' = 1
            heaviest(0) = 0
            heaviest(1) = 1
            work 'ask 0;' = 1
            heaviest(0) = -1
            heaviest(1) = -1
            """ + whatOutside("heaviest(N)", 1));
        edge(28, "The oldest BEAST that is there (what 0), of alike ones the first, its age (1); NONE both: there are none.", """
            oldest(0) = -1
            oldest(1) = -1
            hills 'folk 9 9;folk 9 9;beast 0 1 0 1;beast 0 1 0 30;beast 0 1 0 30;' = 3
            oldest(0) = 0
            oldest(1) = 0 // an age of 0 is no NONE
            work 'day;day;ask 0;do 0;day;' = 5
            oldest(0) = 1
            oldest(1) = 3
            work 'ask 1;ask 2;' = 2
            oldest(0) = 0
            oldest(1) = 1
            work 'ask 0;' = 1
            oldest(0) = -1
            oldest(1) = -1
            """ + whatOutside("oldest(N)", 1));
        edge(34, "The lightest BEAST that is there (what 0), of alike ones the first, its WEIGHT (1); NONE both: there are none.", """
            lightest(0) = -1
            lightest(1) = -1
            hills 'folk 0 0;folk 0 0;beast 0 1 0 30;beast 0 1 0 1;beast 0 1 0 1;' = 3
            lightest(0) = 1
            lightest(1) = 1
            work 'ask 1;' = 1 // who is gone weighs 0, and is not the lightest
            lightest(0) = 2
            work 'ask 2;' = 1
            lightest(0) = 0
            lightest(1) = 30
            work 'ask 0;' = 1
            lightest(0) = -1
            lightest(1) = -1
            """ + whatOutside("lightest(N)", 1));
    }

    private void coolest() {
        edge(35, "The two FOLK who are coolest (what 0: 10 times the lesser, and the other one), of alike ones the first, how"
            + " cool (1); NONE both: nobody is.", """
            coolest(0) = -1
            coolest(1) = -1
            hills 'folk 0 0;folk 0 0;folk 0 0;folk 0 0;folk 0 0;folk 0 0;beast 5 4 0 1;beast 1 5 0 1;beast 2 0 0 1;beast 1 0 0 1;' = 4
            coolest(0) = -1
            coolest(1) = -1
            work 'kill 0;' = 1
            coolest(0) = 45
            coolest(1) = 1
            work 'kill 1;' = 1
            coolest(0) = 15
            work 'kill 2;' = 1
            coolest(0) = 2
            work 'kill 3;' = 1
            coolest(0) = 1
            coolest(1) = 1
            work 'do 0;kill 0;' = 2
            coolest(0) = 45
            coolest(1) = 2
            work 'again 9[do 3;kill 3;do 0;kill 0;];' = 36
            coolest(0) = 1
            coolest(1) = 9
            """ + whatOutside("coolest(N)", 1));
    }

    private void bits() {
        edge(29, "FOLK (bits) on whose pasture all together EAT more than there is GRASS now.", """
            overrun() = 0
            hills 'folk 2 9;folk 3 0;folk 0 0;folk 0 0;beast 0 1 0 10;beast 1 0 0 20;beast 3 0 0 1;' = 3
            overrun() = 8 // as much as there is is not more
            law '2 + weight / 10' = 1
            overrun() = 11
            work 'drive 0 2;drive 1 2;drive 2 2;' = 3
            overrun() = 4
            law '0' = 1
            overrun() = 0
            """);
        edge(30, "FOLK (bits) who are A of more BEASTS that are there than they are B of (what 0), of as many (1), of fewer (2).", """
            hills 'folk 0 0;folk 0 0;folk 0 0;beast 0 1 0 1;beast 0 1 0 1;beast 1 0 0 1;' = 3
            good(0) = 1
            good(1) = 4 // none and none
            good(2) = 2
            work 'ask 0;' = 1
            good(0) = 0
            good(1) = 7
            good(2) = 0
            work 'ask 1;' = 1
            good(0) = 2
            good(2) = 1
            work 'ask 2;' = 1
            good(1) = 7
            """ + whatOutside("good(N)", 2));
        edge(31, "BEASTS (bits) that are there, of a KIND (0 to 5).", """
            kind(0) = 0
            hills 'folk 0 0;folk 0 0;beast 0 1 0 1;beast 0 1 5 1;beast 1 0 5 1;' = 3
            kind(0) = 1
            kind(1) = 0
            kind(5) = 6
            work 'ask 2;ask 0;' = 2
            kind(0) = 0
            kind(5) = 2
            """ + whatOutside("kind(N)", 5));
        edge(32, "BEASTS (bits) that are there, not on the pasture of their A.", """
            driven() = 0
            {two}
            driven() = 0
            work 'drive 0 1;' = 1
            driven() = 1
            work 'drive 1 0;' = 1
            driven() = 3
            work 'drive 0 0;' = 1
            driven() = 2
            work 'ask 1;' = 1
            driven() = 0
            work 'do 1;' = 1
            driven() = 0
            {twelve}
            work 'drive 0 1;drive 11 0;' = 2
            driven() = 2049
            """);
        edge(33, "WEIGHTS together of BEASTS that are there of which FOLK are A (what 0), B (1).", """
            {twelve}
            weighs(0, 0) = 36
            weighs(0, 1) = 42
            weighs(1, 0) = 42
            work 'ask 11;drive 0 1;' = 2
            weighs(0, 0) = 36
            weighs(0, 1) = 30
            hills 'folk 0 0;folk 0 0;' = 0
            weighs(1, 0) = 0
            weighs(1, 1) = 0
            """ + whatOutside("weighs(1, N)", 1) + outside("weighs(N, 0)", 0, 1, "NSEE") + outside("weighs(N, 2)", 0, 1, "NSEE"));
    }

    private void decade() {
        String sentence = "A DECADE of so many DAYS (1 to 96), Q (0 to 16): 0 GRASS of all together then, 1 BEASTS that are there"
            + " then (bits), 2 how many STARVED in it, 3 WEIGHTS together then.";
        edge(37, sentence, outside("decade(0, N, 0, 0)", 1, 96, "IAE") + whatOutside("decade(0, 1, N, 0)", 16)
            + whatOutside("decade(0, 1, 0, N)", 3) + """
            status(1) = 12
            hills 'folk 1 1;' = 0
            decade(0, 1, 0, 0) = 2
            decade(0, 96, 0, 0) = 97
            decade(0, 96, 16, 0) = 97
            decade(-2147483648, 96, 16, 2) = 0
            decade(2147483647, 96, 16, 3) = 0
            """);
        edge(37, sentence, """
            hills 'folk 0 0;folk 0 0;beast 0 1 0 1;beast 1 0 0 2;' = 2
            law 'beast' = 1
            work 'day;' = 1
            work 'day;' = 1
            told(8) = 1
            told(4) = 1
            decade(0, 1, 0, 2) = 0 // 0 is asked back; those that starved ahead of it don't count
            decade(0, 1, 0, 1) = 0
            decade(0, 1, 0, 3) = 0
            law '1' = 1
            decade(1, 1, 0, 2) = 0 // 16838 of 2: 0 is asked back
            decade(-1, 1, 0, 2) = 1 // 15929 of 2: 1 is done again, 0 starves
            decade(-1, 1, 0, 1) = 2
            decade(-1, 1, 0, 3) = 1
            decade(-1, 1, 0, 0) = 0
            told(8) = 1
            told(3) = 2
            hills 'folk 7 0;folk 0 0;beast 0 1 0 30;beast 0 1 0 1;beast 1 0 0 1;' = 3
            decade(-1, 1, 0, 0) = 2 // 15929 of 3 is 2: asked back; 30 eats 4, 1 eats 1
            law '7' = 1
            decade(-1, 1, 0, 0) = 0
            decade(-1, 1, 0, 1) = 1
            decade(-1, 1, 0, 2) = 1
            decade(-1, 1, 0, 3) = 30
            """);
    }

    private void span() {
        edge(38, "Of so many SEEDS (1 to 20; seed, seed and 1, ..): 0 the least GRASS of all together then, 1 the most,"
            + " 2 by how many a pasture is bare then.", """
            hills 'folk 20 0;folk 0 0;folk 20 0;beast 0 1 0 10;beast 2 1 0 10;' = 2
            law '4 + beast * 2' = 1
            decade(0, 1, 0, 0) = 34 // 0 is asked back, 1 eats 6
            decade(-1, 1, 0, 0) = 36
            span(0, 1, 1, 0, 0, 0) = 34
            span(0, 1, 1, 0, 1, 0) = 34
            span(-1, 1, 1, 0, 0, 0) = 36
            span(-1, 2, 1, 0, 0, 0) = 34 // -1 and 0
            span(-1, 2, 1, 0, 1, 0) = 36
            span(2147483647, 1, 1, 0, 0, 0) = 36
            span(2147483647, 2, 1, 0, 0, 0) = 34 // it wraps
            span(2147483647, 2, 1, 0, 1, 0) = 36
            span(0, 20, 1, 0, 2, 1) = 20
            span(0, 1, 1, 0, 2, 1) = 1
            span(0, 20, 1, 0, 2, 0) = 0
            law '20' = 1
            span(-1, 2, 1, 0, 2, 0) = 1
            span(-1, 2, 1, 0, 2, 2) = 1
            span(0, 1, 1, 0, 2, 2) = 1
            span(0, 1, 1, 0, 2, 0) = 0
            told(5) = 40
            hills 'folk 0 0;folk 0 0;beast 0 1 0 9;' = 1
            span(3, 20, 96, 16, 0, 0) = 0
            span(3, 20, 96, 16, 1, 0) = 0
            hills 'folk 99 9;folk 99 9;folk 99 9;folk 99 9;folk 99 9;folk 99 9;' = 0
            span(3, 20, 96, 16, 0, 5) = 594
            span(3, 20, 96, 16, 1, 5) = 594
            span(3, 20, 96, 16, 2, 5) = 0
            """);
        edge(38, "Of so many SEEDS (1 to 20; seed, seed and 1, ..)", "{two}\n" + outside("span(0, N, 1, 0, 0, 0)", 1, 20, "IAE")
            + outside("span(0, 1, N, 0, 0, 0)", 1, 96, "IAE") + whatOutside("span(0, 1, 1, N, 0, 0)", 16)
            + whatOutside("span(0, 1, 1, 0, N, 0)", 2) + "status(1) = 16\n");
        edge(38, "(IllegalArgumentException: no such FOLK, also for 0, 1.)", "span(0, 1, 1, 0, 0, 0) = IAE\n{two}\n"
            + whatOutside("span(0, 1, 1, 0, 0, N)", 1) + whatOutside("span(0, 1, 1, 0, 1, N)", 1)
            + whatOutside("span(0, 1, 1, 0, 2, N)", 1) + "status(0) = 0\nstatus(1) = 13\n");
    }

    private void image() {
        edge(39, "An IMAGE of all that WORK changes, and of WORKS that can be undone: how many there are; -1: there are 3.", """
            image() = 1
            image() = 2
            image() = 3
            image() = -1
            count(0) = 3
            image() = -1
            restore() = 2
            image() = 3
            image() = -1
            status(0) = 0
            status(1) = 0
            hills '' = 0
            image() = 1
            """);
        edge(39, "An IMAGE of all that WORK changes, and of WORKS that can be undone:", """
            hills 'folk 9 1;folk 0 0;beast 0 1 0 9;beast 1 0 0 1;' = 2
            work 'kill 0;day;' = 2
            work 'do 0;drive 0 1;hay 1 3;' = 3
            image() = 1
            work 'again 9[day;];kill 0;' = 10
            undo() = 2
            undo() = 1
            undo() = 0
            work 'hay 0 60;' = 1
            work 'hay 1 60;' = 1
            restore() = 0
            told(3) = 1
            told(4) = 1
            told(5) = 13
            told(8) = 1
            told(11) = 1
            beast(0, 4) = 1
            count(2) = 2
            undo() = 1
            told(4) = 0
            told(5) = 10
            undo() = 0
            told(4) = 3
            told(3) = 0
            told(8) = 0
            told(11) = 0
            """);
        edge(39, "An IMAGE of all that WORK changes,", """
            hills 'folk 9 9;folk 0 0;folk 0 0;folk 0 0;folk 0 0;folk 0 0;beast 0 1 0 9;beast 5 4 0 1;' = 2
            work 'day;day;day;' = 3
            image() = 1
            work 'day;' = 1
            beast(0, 5) = 4
            undo() = 1
            beast(0, 5) = 3
            told(8) = 1
            work 'ask 0;do 0;' = 2
            beast(0, 5) = 0
            restore() = 0
            beast(0, 5) = 3
            beast(0, 6) = 1
            told(8) = 1
            told(3) = 3
            cool(5, 5) = 0
            cool(0, 0) = 0
            told(11) = 0
            """);
        // All sixteen WORKS come back, whatever was undone and done since.
        StringBuilder works = new StringBuilder("hills 'folk 0 0;' = 0\n" + "work 'day;' = 1\n".repeat(16) + "image() = 1\n");
        for (int left = 15; left >= 0; left--) {
            works.append("undo() = ").append(left).append('\n');
        }
        works.append("work 'hay 0 1;' = 1\n".repeat(16)).append("restore() = 0\ncount(2) = 16\ntold(3) = 16\n");
        for (int left = 15; left >= 0; left--) {
            works.append("undo() = ").append(left).append("\ntold(3) = ").append(left).append("\ntold(5) = 0\n");
        }
        edge(39, "and of WORKS that can be undone:", works.toString());
        // An image that finds no room changes none of the three.
        edge(39, "-1: there are 3.", """
            hills 'folk 0 0;' = 0
            image() = 1
            work 'hay 0 1;' = 1
            image() = 2
            work 'hay 0 1;' = 1
            image() = 3
            work 'hay 0 1;' = 1
            image() = -1
            restore() = 2
            folk(0, 0) = 2
            restore() = 1
            folk(0, 0) = 1
            restore() = 0
            folk(0, 0) = 0
            restore() = -1
            """);
    }

    private void restore() {
        edge(40, "All that is as in the latest IMAGE, which is gone: how many are left; -1: there is none.", """
            restore() = -1
            {two}
            restore() = -1
            image() = 1
            work 'day;' = 1
            image() = 2
            work 'ask 0;' = 1
            restore() = 1
            told(4) = 3
            told(3) = 1
            count(2) = 1
            restore() = 0
            told(3) = 0
            count(2) = 0
            undo() = -1
            work 'day;' = 1
            restore() = -1 // none is left, and nothing changes
            told(3) = 1
            count(2) = 1
            status(0) = 0
            status(1) = 0
            """);
        edge(40, "All that is as in the latest IMAGE,", """
            {two}
            image() = 1
            law '7' = 1
            book '1 1;' = 1
            law '?' = -9
            feed(1, 2, 3, 4, 5) = 20
            restore() = 0 // LAW, BOOK, FAULT and TAPE are not what WORK changes
            beast(0, 6) = 7
            told(9) = 1
            fault() = 0
            count(1) = 20
            """);
    }

    private void status() {
        edge(41, "How many calls were refused: 0 NoSuchElementException, 1 IllegalArgumentException; NONE for others.", """
            status(0) = 0
            status(1) = 0
            status(2) = -1
            status(-1) = -1
            status(-2147483648) = -1
            status(2147483647) = -1
            told(12) = IAE
            folk(0, 99) = NSEE // one of the two alone
            status(0) = 1
            status(1) = 1
            count(9) = -1
            undo() = -1
            restore() = -1
            law '?' = -9
            status(0) = 1
            status(1) = 1
            hills '' = 0
            status(0) = 1
            status(1) = 1
            """);
        edge(41, "(No IMAGE keeps it.)", """
            told(12) = IAE
            image() = 1
            told(12) = IAE
            fair(0, 0) = NSEE
            restore() = 0
            status(0) = 1
            status(1) = 2
            work(0) = 0
            told(12) = IAE
            undo() = 0
            status(1) = 3
            """);
    }

    /** A refused call changes nothing but how many were refused. */
    private void refused() {
        String[] calls = {"3 hills 21", "3 hills -1", "4 law 21", "4 law -1", "5 work 21", "5 work -1", "6 book 21", "6 book -1",
            "9 told 12", "10 folk 2 0", "10 folk 0 6", "11 beast 3 0", "11 beast 0 7", "12 fair 1 0", "12 fair 0 3",
            "13 cool 0 2", "14 would 31 0 0 0 0 0 0 0", "15 ahead 100 0", "15 ahead 1 3", "16 bare 2", "18 herd 2 0",
            "18 herd 0 2", "19 paid 3 0", "19 paid 0 2", "20 unseen 2 0", "20 unseen 0 2", "21 look 2 0", "21 look 0 2",
            "22 way 0 2", "23 price 0 6", "24 owing 100 0 0", "25 home 13 0 0 0", "26 share 2 1 1", "26 share 0 4 1",
            "26 share 0 1 1000", "27 heaviest 2", "28 oldest 2", "30 good 3", "31 kind 6", "33 weighs 2 0", "33 weighs 0 2",
            "34 lightest 2", "35 coolest 2", "36 round 2", "37 decade 0 97 0 0", "38 span 0 21 1 0 0 0", "38 span 0 1 1 0 0 2"};
        for (String row : calls) {
            String[] words = row.split(" ");
            int[] arguments = new int[words.length - 2];
            for (int i = 0; i < arguments.length; i++) {
                arguments[i] = Integer.parseInt(words[i + 2]);
            }
            FavourBeasts x = Grown.make();
            String answer = Calls.answer(x, words[1], arguments);
            boolean missing = answer.equals("throws.NoSuchElementException");
            boolean counted = x.status(0) == (missing ? 1 : 0) && x.status(1) == (missing ? 0 : 1);
            edges.holds(41, "How many calls were refused:", answer.startsWith("throws.") && counted
                && Grown.alike(x, Grown.make()), "promise " + row + " changed something, or was not counted");
        }
    }

    private void count() {
        edge(42, "0 IMAGES, 1 bytes of the TAPE, 2 WORKS that can be undone; NONE for others.", """
            count(0) = 0
            count(1) = 0
            count(2) = 0
            count(3) = -1
            count(-1) = -1
            count(-2147483648) = -1
            count(2147483647) = -1
            status(1) = 0
            feed(0, 0, 0, 0, 0) = 20
            count(1) = 20
            work(0) = 0
            count(1) = 0
            count(2) = 1
            image() = 1
            image() = 2
            image() = 3
            image() = -1
            count(0) = 3
            undo() = 0
            count(2) = 0
            restore() = 2
            count(0) = 2
            count(2) = 1
            """ + "work(0) = 0\n".repeat(15) + """
            work(0) = -20
            count(2) = 16
            """ + Edges.blanksFed(30) + """
            feed(0, 0, 0, 0, 0) = -1
            count(1) = 600
            hills(0) = 0
            count(0) = 0
            count(1) = 0
            count(2) = 0
            """);
    }
}
