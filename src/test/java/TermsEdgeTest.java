import java.io.IOException;

/** The boundary cases that the document's Terms name, sentence by sentence. */
public final class TermsEdgeTest {
    private static final String SIX_FOLK = "folk 0 0;folk 1 1;folk 2 2;folk 3 3;folk 4 4;folk 5 5;";
    private static final String TWELVE_BEASTS = "beast 0 1 0 1;".repeat(12);
    private static final String TEN_FAIRS = "fair 0 1 1;".repeat(10);

    private final Edges edges;

    private TermsEdgeTest() throws IOException {
        edges = new Edges("TermsEdgeTest", true);
    }

    public static void main(String[] args) throws IOException {
        TermsEdgeTest test = new TermsEdgeTest();
        test.calls();
        test.hillsText();
        test.folkClauses();
        test.beastClauses();
        test.fairClauses();
        test.lawText();
        test.lawUnits();
        test.lawValues();
        test.workText();
        test.bookText();
        test.tokens();
        test.faults();
        test.openAtOneTime();
        test.stepsBegun();
        test.steps();
        test.days();
        test.asked();
        test.bare();
        test.sets();
        test.unseen();
        test.waysAndPrices();
        test.reckonings();
        test.shares();
        test.decades();
        test.drawn();
        test.edges.finish();
    }

    private void edge(int promise, String sentence, String rows) {
        edges.edge(promise, sentence, rows);
    }

    private void calls() {
        StringBuilder rows = new StringBuilder();
        for (int i = 0; i < 16; i++) {
            rows.append("work(0) = 0\n");
        }
        for (int i = 0; i < 494; i++) {
            rows.append(i % 2 == 0 ? "told(12) = IAE\n" : "cool(0, 0) = NSEE\n");
        }
        edge(41, "An object is used for at most 512 calls after it has been made", rows + """
            status(0) = 247
            status(1) = 247
            """);
    }

    private void hillsText() {
        edge(3, "HILLS are a text of up to 600 bytes", "hills '" + " ".repeat(591) + "folk 7 3;' = 0\n" + """
            fault() = -1
            folk(0, 0) = 7
            folk(0, 1) = 3
            """ + Edges.blanksFed(30) + """
            hills(601) = IAE
            hills(600) = 0
            told(0) = 0
            """);
        edge(3, "HILLS are a text of up to 600 bytes", "hills '" + " ".repeat(592) + "folk 7 3' = -9\nfault() = 600\n");
        edge(3, "{ CLAUSE ';' }", """
            hills '' = 0
            fault() = -1
            told(0) = 0
            hills 'folk 1 1;' = 0
            told(0) = 1
            hills 'folk 1 1;folk 2 2' = -9
            fault() = 17
            hills 'folk 1 1 folk 2 2;' = -9
            fault() = 9
            hills ';' = -9
            fault() = 0
            hills 'folk 1 1;;' = -9
            fault() = 9
            told(0) = 1
            """);
        // No text reaches a 61st: 28 are the most that can stand, and each one behind them is too many of its own.
        String all = SIX_FOLK + TWELVE_BEASTS + TEN_FAIRS;
        edge(3, "at most 60.", "hills '" + all + "' = 12\ntold(0) = 6\ntold(1) = 12\ntold(2) = 10\n"
            + "hills '" + all + "folk 0 0;' = -7\nfault() = 332\nhills '" + all + "beast 0 1 0 1;' = -7\nfault() = 332\n"
            + "hills '" + all + "fair 0 1 1;' = -7\nfault() = 332\ntold(0) = 6\n");
    }

    private void folkClauses() {
        edge(3, "CLAUSE: 'folk' G R (FOLK, numbered from 0 on, 6 at most:", "hills '" + SIX_FOLK + "' = 0\n" + """
            told(0) = 6
            folk(-1, 0) = NSEE
            folk(0, 0) = 0
            folk(5, 0) = 5
            folk(5, 1) = 5
            folk(6, 0) = NSEE
            """ + "hills '" + SIX_FOLK + "folk 6 6;' = -7\nfault() = 54\ntold(0) = 6\n");
        edge(3, "GRASS G, 0 to 99,", """
            hills 'folk 0 0;' = 0
            folk(0, 0) = 0
            hills 'folk 99 0;' = 0
            folk(0, 0) = 99
            hills 'folk 100 0;' = -8
            fault() = 5
            hills 'folk -1 0;' = -9
            fault() = 5
            folk(0, 0) = 99
            """);
        edge(3, "that grows by R, 0 to 9, in a DAY),", """
            hills 'folk 3 0;folk 3 9;' = 0
            folk(0, 1) = 0
            folk(1, 1) = 9
            work 'day;' = 1
            folk(0, 0) = 3
            folk(1, 0) = 12
            hills 'folk 3 10;' = -8
            fault() = 7
            hills 'folk 3 -1;' = -9
            fault() = 7
            """);
    }

    private void beastClauses() {
        edge(3, "'beast' A B K W (BEASTS likewise, 12:", "hills 'folk 0 0;folk 0 0;" + TWELVE_BEASTS + "' = 12\n" + """
            told(1) = 12
            told(4) = 4095
            beast(-1, 0) = NSEE
            beast(0, 0) = 0
            beast(11, 1) = 1
            beast(12, 0) = NSEE
            """ + "hills 'folk 0 0;folk 0 0;" + TWELVE_BEASTS + " beast 0 1 0 1;' = -7\nfault() = 187\ntold(1) = 12\n");
        edge(3, "FOLK A did it for FOLK B, both told ahead, not one,", """
            hills 'folk 1 1;folk 1 1;beast 1 0 0 1;' = 1
            beast(0, 0) = 1
            beast(0, 1) = 0
            hills 'folk 1 1;folk 1 1;beast 1 1 0 1;' = -8 // one
            fault() = 26
            hills 'folk 1 1;folk 1 1;beast 2 0 0 1;' = -8 // not told
            fault() = 24
            hills 'folk 1 1;folk 1 1;beast 0 2 0 1;' = -8
            fault() = 26
            hills 'folk 1 1;beast 0 1 0 1;folk 1 1;' = -8 // told behind
            fault() = 17
            hills 'folk 1 1;beast 1 0 0 1;folk 1 1;' = -8
            fault() = 15
            hills 'beast 0 1 0 1;' = -8 // nobody is told
            fault() = 6
            told(1) = 1
            """);
        edge(3, "KIND K, 0 to 5,", """
            hills 'folk 1 1;folk 1 1;beast 0 1 0 1;' = 1
            beast(0, 2) = 0
            hills 'folk 1 1;folk 1 1;beast 0 1 5 1;' = 1
            beast(0, 2) = 5
            hills 'folk 1 1;folk 1 1;beast 0 1 6 1;' = -8
            fault() = 28
            """);
        edge(3, "WEIGHT W, 1 to 30),", """
            hills 'folk 1 1;folk 1 1;beast 0 1 0 1;' = 1
            beast(0, 3) = 1
            hills 'folk 1 1;folk 1 1;beast 0 1 0 30;' = 1
            beast(0, 3) = 30
            hills 'folk 1 1;folk 1 1;beast 0 1 0 0;' = -8
            fault() = 30
            hills 'folk 1 1;folk 1 1;beast 0 1 0 31;' = -8
            fault() = 30
            beast(0, 3) = 30
            """);
    }

    private void fairClauses() {
        edge(3, "or 'fair' K L N (FAIRS likewise, 10:", "hills '" + TEN_FAIRS + "' = 0\n" + """
            told(2) = 10
            fair(-1, 0) = NSEE
            fair(0, 1) = 1
            fair(9, 1) = 1
            fair(10, 0) = NSEE
            """ + "hills '" + TEN_FAIRS + "fair 0 1 1;' = -7\nfault() = 110\ntold(2) = 10\n");
        edge(3, "N, 1 to 9, of KIND K for one of KIND L,", """
            hills 'fair 0 1 1;fair 2 3 9;' = 0
            fair(0, 2) = 1
            fair(1, 0) = 2
            fair(1, 1) = 3
            fair(1, 2) = 9
            price(2, 3) = 9
            price(3, 2) = -1
            hills 'fair 0 1 0;' = -8
            fault() = 9
            hills 'fair 0 1 10;' = -8
            fault() = 9
            """);
        edge(3, "0 to 5, unlike).", """
            hills 'fair 0 5 1;fair 5 0 1;' = 0
            fair(0, 0) = 0
            fair(0, 1) = 5
            fair(1, 0) = 5
            hills 'fair 6 0 1;' = -8
            fault() = 5
            hills 'fair 0 6 1;' = -8
            fault() = 7
            hills 'fair 0 0 1;' = -8
            fault() = 7
            hills 'fair 5 5 1;' = -8
            fault() = 7
            told(2) = 2
            """);
    }

    private void lawText() {
        edge(4, "A LAW is a text of up to 150 bytes:", "law '" + " ".repeat(149) + "7' = 1\n" + """
            would(30, 0, 0, 0, 0, 0, 0, 0) = 7
            """ + "law '" + " ".repeat(150) + "8' = IAE\n" + """
            count(1) = 160
            would(30, 0, 0, 0, 0, 0, 0, 0) = 7
            law(150) = -9
            fault() = 150
            would(30, 0, 0, 0, 0, 0, 0, 0) = 7
            """);
        edge(4, "E, at the end nothing more;", """
            law '' = -9
            fault() = 0
            law '   ' = -9
            fault() = 3
            law '7 ' = 1
            law '1 1' = -9
            fault() = 2
            law '1;' = -9
            fault() = 1
            law '1)' = -9
            fault() = 1
            law '1 weight' = -9
            fault() = 2
            would(30, 0, 0, 0, 0, 0, 0, 0) = 7
            """);
        edge(4, "without: 1 + weight / 10.", """
            would(1, 0, 0, 0, 0, 0, 0, 0) = 1
            would(9, 0, 0, 0, 0, 0, 0, 0) = 1
            would(10, 0, 0, 0, 0, 0, 0, 0) = 2
            would(19, 0, 0, 0, 0, 0, 0, 0) = 2
            would(20, 0, 0, 0, 0, 0, 0, 0) = 3
            would(29, 0, 0, 0, 0, 0, 0, 0) = 3
            would(30, 5, 999, 99, 12, 9, 400, 12) = 4
            law 'x' = -9
            would(30, 0, 0, 0, 0, 0, 0, 0) = 4
            """);
        edge(4, "EATS, what a BEAST eats in a DAY: what comes out, 0 at least, 20 at most.", """
            {two}
            law '0 - 1' = 1
            beast(0, 6) = 0
            told(7) = 0
            law '0' = 1
            beast(0, 6) = 0
            law '1' = 1
            beast(0, 6) = 1
            law '20' = 1
            beast(0, 6) = 20
            law '21' = 1
            beast(0, 6) = 20
            told(7) = 40
            law '0 - 999 * 999' = 1
            beast(0, 6) = 0
            law '999 * 999' = 1
            beast(0, 6) = 20
            """);
        edge(4, "E: T { + or - T }.", """
            law '9' = 1
            would(1, 0, 0, 0, 0, 0, 0, 0) = 9
            law '9 - 3 - 2' = 1
            would(1, 0, 0, 0, 0, 0, 0, 0) = 4
            law '9 - 3 + 2' = 1
            would(1, 0, 0, 0, 0, 0, 0, 0) = 8
            law '9 -' = -9
            fault() = 3
            law '- 9' = -9
            fault() = 0
            law '+9' = -9
            fault() = 0
            law '9 - - 9' = -9
            fault() = 4
            would(1, 0, 0, 0, 0, 0, 0, 0) = 8
            """);
        edge(4, "T: U { * or / or % U }.", """
            law '19 / 2 / 3' = 1
            would(1, 0, 0, 0, 0, 0, 0, 0) = 3
            law '20 / 3 * 2' = 1
            would(1, 0, 0, 0, 0, 0, 0, 0) = 12
            law '17 % 10 / 2' = 1
            would(1, 0, 0, 0, 0, 0, 0, 0) = 3
            law '2 * 7 % 5' = 1
            would(1, 0, 0, 0, 0, 0, 0, 0) = 4
            law '1 + 2 * 3 - 8 / 4' = 1
            would(1, 0, 0, 0, 0, 0, 0, 0) = 5
            law '2 *' = -9
            fault() = 3
            law '* 2' = -9
            fault() = 0
            law '2 * % 2' = -9
            fault() = 4
            """);
    }

    private void lawUnits() {
        edge(4, "U: N (0 to 999),", """
            law '0' = 1
            would(30, 0, 0, 0, 0, 0, 0, 0) = 0
            law '999 - 990' = 1
            would(30, 0, 0, 0, 0, 0, 0, 0) = 9
            law '1000 - 990' = -8
            fault() = 0
            law '2 + 1000' = -8
            fault() = 4
            would(30, 0, 0, 0, 0, 0, 0, 0) = 9
            """);
        edge(4, "'weight' (W by now),", """
            hills 'folk 0 0;folk 0 0;beast 0 1 0 8;' = 1
            law 'weight / 2' = 1
            beast(0, 6) = 4
            work 'day;' = 1
            beast(0, 3) = 4
            beast(0, 6) = 2
            work 'day;day;day;' = 3
            beast(0, 3) = 1
            beast(0, 6) = 0
            told(8) = 0
            """);
        edge(4, "'kind' (K),", """
            {two}
            law 'kind' = 1
            beast(0, 6) = 0
            beast(1, 6) = 5
            """);
        edge(4, "'age' (DAYS by now),", """
            hills 'folk 99 9;folk 0 0;beast 0 1 0 8;' = 1
            law 'age' = 1
            beast(0, 6) = 0
            work 'day;' = 1
            beast(0, 6) = 1
            work 'day;ask 0;do 0;' = 3
            beast(0, 6) = 0
            """);
        edge(4, "'age' (DAYS by now),", """
            hills 'folk 99 9;folk 0 0;beast 0 1 0 8;' = 1
            law 'age - 390' = 1
            {day 400}
            beast(0, 6) = 10
            """);
        edge(4, "'grass' (of the pasture it is on),", """
            hills 'folk 0 0;folk 99 0;beast 0 1 0 9;' = 1
            law 'grass / 9' = 1
            beast(0, 6) = 0
            work 'drive 0 1;' = 1
            beast(0, 6) = 11
            """);
        edge(4, "'others' (other BEASTS on it),", """
            {two}
            law 'others' = 1
            beast(0, 6) = 0
            work 'drive 1 0;' = 1
            beast(0, 6) = 1
            beast(1, 6) = 1
            work 'ask 1;' = 1
            beast(0, 6) = 0
            {twelve}
            law 'others' = 1
            beast(0, 6) = 5
            work 'drive 1 0;drive 3 0;drive 5 0;drive 7 0;drive 9 0;drive 11 0;' = 6
            beast(11, 6) = 11
            """);
        edge(4, "'cool' (how cool A and B are),", """
            {two}
            law 'cool' = 1
            beast(0, 6) = 0
            work 'kill 0;do 0;' = 2
            beast(0, 6) = 1
            beast(1, 6) = 1
            work 'again 8[kill 0;do 0;];' = 16
            beast(0, 6) = 9
            work 'kill 0;do 0;' = 2
            beast(0, 6) = 9
            """);
        edge(4, "'day', 'beast' (the number),", """
            {twelve}
            law 'beast' = 1
            beast(0, 6) = 0
            beast(11, 6) = 11
            law 'day' = 1
            beast(0, 6) = 0
            work 'day;' = 1
            beast(0, 6) = 1
            law 'most[0, day - 390]' = 1
            undo() = 0
            {day 400}
            would(1, 0, 0, 0, 0, 0, 400, 0) = 10
            beast(0, 6) = 10
            """);
        edge(4, "'least' '[' E ',' E ']', 'most' '[' E ',' E ']', or '(' E ')'.", """
            law 'least[3,5]' = 1
            would(1, 0, 0, 0, 0, 0, 0, 0) = 3
            law 'least[5,3]' = 1
            would(1, 0, 0, 0, 0, 0, 0, 0) = 3
            law 'least[4,4]' = 1
            would(1, 0, 0, 0, 0, 0, 0, 0) = 4
            law 'least[0 - 5, 3] + 6' = 1
            would(1, 0, 0, 0, 0, 0, 0, 0) = 1
            law 'most[3,5]' = 1
            would(1, 0, 0, 0, 0, 0, 0, 0) = 5
            law 'most[5,3]' = 1
            would(1, 0, 0, 0, 0, 0, 0, 0) = 5
            law 'most[0 - 5, 0 - 3] + 6' = 1
            would(1, 0, 0, 0, 0, 0, 0, 0) = 3
            law '(1 + 2) * (3 + 1)' = 1
            would(1, 0, 0, 0, 0, 0, 0, 0) = 12
            law '()' = -9
            fault() = 1
            law '(1' = -9
            fault() = 2
            law 'least[]' = -9
            fault() = 6
            law 'least[1]' = -9
            fault() = 7
            law 'least[,1]' = -9
            fault() = 6
            law 'least[1,]' = -9
            fault() = 8
            law 'most[1,2' = -9
            fault() = 8
            law 'most[1,2,3]' = -9
            fault() = 8
            law 'most(1,2)' = -9
            fault() = 4
            """);
    }

    private void lawValues() {
        edge(14, "Values are whole numbers of 32 bits that wrap;", """
            law '512*512*512*16' = 1 // the least number
            would(1, 0, 0, 0, 0, 0, 0, 0) = 0
            law '512*512*512*16 - 1' = 1 // the greatest
            would(1, 0, 0, 0, 0, 0, 0, 0) = 20
            law '512*512*512*16 - 1 + 1' = 1
            would(1, 0, 0, 0, 0, 0, 0, 0) = 0
            law '512*512*512*32 + 7' = 1
            would(1, 0, 0, 0, 0, 0, 0, 0) = 7
            law '(512*512*512*16 - 1) * 2 + 9' = 1
            would(1, 0, 0, 0, 0, 0, 0, 0) = 7
            law '0 - 512*512*512*16' = 1
            would(1, 0, 0, 0, 0, 0, 0, 0) = 0
            law 'least[512*512*512*16, 0 - 1] + 512*512*512*16 + 5' = 1
            would(1, 0, 0, 0, 0, 0, 0, 0) = 5
            """);
        edge(14, "/ cuts, % leaves (with the sign of what is divided), by 0 both are 0.", """
            law '(0 - 7) / 2 + 9' = 1
            would(1, 0, 0, 0, 0, 0, 0, 0) = 6
            law '7 / (0 - 2) + 9' = 1
            would(1, 0, 0, 0, 0, 0, 0, 0) = 6
            law '(0 - 7) / (0 - 2)' = 1
            would(1, 0, 0, 0, 0, 0, 0, 0) = 3
            law '(0 - 7) % 3 + 9' = 1
            would(1, 0, 0, 0, 0, 0, 0, 0) = 8
            law '7 % (0 - 3) + 9' = 1
            would(1, 0, 0, 0, 0, 0, 0, 0) = 10
            law '(0 - 7) % (0 - 7) + 9' = 1
            would(1, 0, 0, 0, 0, 0, 0, 0) = 9
            law '7 / 0 + 5' = 1
            would(1, 0, 0, 0, 0, 0, 0, 0) = 5
            law '7 % 0 + 5' = 1
            would(1, 0, 0, 0, 0, 0, 0, 0) = 5
            law '0 / 0 + 5' = 1
            would(1, 0, 0, 0, 0, 0, 0, 0) = 5
            law '0 % 0 + 5' = 1
            would(1, 0, 0, 0, 0, 0, 0, 0) = 5
            law '12 / age + 12 % grass + 5' = 1
            would(1, 0, 0, 0, 0, 0, 0, 0) = 5
            law '512*512*512*16 / (0 - 1) / 999 / 999 / 999 + 9' = 1 // the least number, by -1, wraps
            would(1, 0, 0, 0, 0, 0, 0, 0) = 7
            law '512*512*512*16 % (0 - 1) + 5' = 1
            would(1, 0, 0, 0, 0, 0, 0, 0) = 5
            """);
    }

    private void workText() {
        edge(5, "WORK is a text of up to 150 bytes: { STEP ';' }.", "work '" + " ".repeat(146) + "day;' = 1\n"
            + "work '" + " ".repeat(147) + "day;' = IAE\n" + """
            count(1) = 160
            told(3) = 1
            work(150) = -9
            fault() = 150
            work '' = 0
            fault() = -1
            work '  ' = 0
            work 'day' = -9
            fault() = 3
            work ';' = -9
            fault() = 0
            work 'day;;' = -9
            fault() = 4
            work 'day day;' = -9
            fault() = 4
            work 'day;]' = -9
            fault() = 4
            told(3) = 1
            """);
        edge(5, "STEP: 'ask' X, 'drive' X P, 'kill' X, 'do' X,", """
            work 'ask 0;' = -8 // none is told
            fault() = 4
            {two}
            work 'ask 1;do 1;kill 1;do 1;drive 1 0;' = 5
            work 'ask 2;' = -8
            fault() = 4
            work 'drive 2 0;' = -8
            fault() = 6
            work 'drive 0 2;' = -8
            fault() = 8
            work 'kill 2;' = -8
            fault() = 5
            work 'do 2;' = -8
            fault() = 3
            work 'ask;' = -9
            fault() = 3
            work 'drive 0;' = -9
            fault() = 7
            count(2) = 1
            """);
        edge(5, "'hay' P N (N 1 to 60), 'day',", """
            work 'hay 0 1;' = -8 // no FOLK is told
            fault() = 4
            {two}
            work 'hay 0 1;' = 1
            folk(0, 0) = 11
            work 'hay 1 60;' = 1
            folk(1, 0) = 80
            work 'hay 0 0;' = -8
            fault() = 6
            work 'hay 0 61;' = -8
            fault() = 6
            work 'hay 2 1;' = -8
            fault() = 4
            work 'hay 0;' = -9
            fault() = 5
            work 'day 1;' = -9
            fault() = 4
            folk(0, 0) = 11
            """);
        edge(5, "or 'again' N '[' { STEP ';' } ']' (N 0 to 60).", """
            work 'again 0[day;];' = 0
            told(3) = 0
            work 'again 1[];' = 0
            work 'again 60[day;];' = 60
            told(3) = 60
            work 'again 61[day;];' = -8
            fault() = 6
            work 'again 1[day];' = -9
            fault() = 11
            work 'again 1[day;]' = -9
            fault() = 13
            work 'again 1[day;;];' = -9
            fault() = 12
            work 'again 1[day;' = -9
            fault() = 12
            work 'again 1 day;' = -9
            fault() = 8
            work 'again [day;];' = -9
            fault() = 6
            told(3) = 60
            """);
    }

    private void bookText() {
        edge(6, "A BOOK is a text of up to 60 bytes: { D G ';' },", "book '" + " ".repeat(56) + "1 2;' = 1\n"
            + "book '" + " ".repeat(57) + "1 2;' = IAE\n" + """
            count(1) = 80
            told(9) = 1
            book(60) = -9
            fault() = 60
            book '1 2' = -9
            fault() = 3
            book '1;' = -9
            fault() = 1
            book ';' = -9
            fault() = 0
            book '1 2;;' = -9
            fault() = 4
            told(9) = 1
            book '' = 0
            told(9) = 0
            """);
        edge(6, "6 lines at most, no D twice:", """
            book '1 1;2 1;3 1;4 1;5 1;6 1;' = 6
            told(9) = 6
            book '1 1;2 1;3 1;4 1;5 1;6 1;7 1;' = -7
            fault() = 24
            book '1 1;1 1;' = -8
            fault() = 4
            book '1 1;2 1;01 2;' = -8
            fault() = 8
            told(9) = 6
            """);
        edge(6, "after D DAYS (1 to 12) there was GRASS G (0 to 99).", """
            book '1 0;12 99;' = 2
            book '0 0;' = -8
            fault() = 0
            book '13 0;' = -8
            fault() = 0
            book '1 100;' = -8
            fault() = 2
            told(9) = 2
            hills 'folk 5 1;' = 0
            law '0' = 1
            book '1 6;12 17;' = 2
            unseen(0, 0) = 180
            book '1 6;12 18;' = 2
            unseen(0, 0) = 0
            work 'day;' = 1 // the DAYS are those from now on
            unseen(0, 0) = 0
            book '1 7;12 18;' = 2
            unseen(0, 0) = 180
            hills 'folk 0 0;folk 99 0;' = 0
            book '12 0;' = 1
            unseen(0, 0) = 180
            law '0' = 1
            book '1 99;' = 1
            unseen(1, 0) = 180
            """);
    }

    private void tokens() {
        edge(3, "Numbers: digits, as many as stand there;", """
            hills 'folk 000000000000000000000000000000099 0000000009;' = 0
            folk(0, 0) = 99
            folk(0, 1) = 9
            hills 'folk 4294967296 0;' = -8 // no number wraps
            fault() = 5
            hills 'folk 4294967297 0;' = -8
            fault() = 5
            hills 'folk 18446744073709551616 0;' = -8
            fault() = 5
            hills 'folk 99999999999999999999999999999999999999990000 0;' = -8
            fault() = 5
            hills 'folk 11;' = -9 // one number, not two
            fault() = 7
            hills 'folk 1 1 1;' = -9
            fault() = 9
            hills 'folk 1x 1;' = -9
            fault() = 6
            hills 'folk 1/ 1;' = -9
            fault() = 6
            hills 'folk 1: 1;' = -9
            fault() = 6
            law '1weight' = -9
            fault() = 1
            folk(0, 0) = 99
            """);
        edge(3, "WORDS: small letters, as many as stand there;", """
            hills 'folk1 1;' = 0
            hills 'folks 1 1;' = -9
            fault() = 0
            hills 'folka 1 1;' = -9
            fault() = 0
            hills 'folkz 1 1;' = -9
            fault() = 0
            hills 'folkfolk 1 1;' = -9
            fault() = 0
            hills 'fol 1 1;' = -9
            fault() = 0
            hills 'Folk 1 1;' = -9
            fault() = 0
            hills 'folK 1 1;' = -9
            fault() = 0
            hills 'folkA 1 1;' = -9 // a great letter is none of the word
            fault() = 4
            hills 'folk` 1 1;' = -9
            fault() = 4
            hills 'folk{ 1 1;' = -9
            fault() = 4
            law 'dayday' = -9
            fault() = 0
            law 'mostly[1,2]' = -9
            fault() = 0
            work 'dayz;' = -9
            fault() = 0
            told(0) = 1
            """);
        edge(3, "blanks (32) may stand ahead of all these, and at the end.", """
            hills '  folk  1  1  ;  folk2 2;beast0 1 0 1;  fair  0  1  1  ;   ' = 1
            law '  least  [  1  ,  2  ]  *  (  3  )  +  kind  ' = 1
            would(1, 2, 0, 0, 0, 0, 0, 0) = 5
            work '  drive  0  1  ;  again  2  [  day  ;  hay  1  1  ;  ]  ;  ' = 5
            book '  1  2  ;  12  3  ;  ' = 2
            hills '     ' = 0
            told(0) = 0
            hills 'fo lk 1 1;' = -9
            fault() = 0
            hills 'folk\t1 1;' = -9
            fault() = 4
            hills '\tfolk 1 1;' = -9
            fault() = 0
            hills 'folk 1 1;\f' = -9
            fault() = 9
            hills 'folk\u00a01 1;' = -9
            fault() = 4
            hills 'folk 1 1;\0' = -9
            fault() = 9
            """);
    }

    private void faults() {
        edge(7, "FAULTS, the first from the left, at its first byte:", """
            hills 'folk 100 x;' = -8
            fault() = 5
            hills 'folk x 100;' = -9
            fault() = 5
            hills 'folk 1 1;  folks 100 100' = -9
            fault() = 11
            law '1 +  1000 x' = -8
            fault() = 5
            work 'hay 0 1;day' = -8
            fault() = 4
            book '1 1;   13 100' = -8
            fault() = 7
            """);
        edge(7, "1 what can't stand there (at the length, if the text ends too early);", """
            hills 'folk' = -9
            fault() = 4
            hills 'folk 1' = -9
            fault() = 6
            hills 'folk 1   ' = -9
            fault() = 9
            hills 'fol' = -9
            fault() = 0
            law '' = -9
            fault() = 0
            law '  (1' = -9
            fault() = 4
            law '1 +' = -9
            fault() = 3
            work 'again 2[' = -9
            fault() = 8
            book '1' = -9
            fault() = 1
            book '1 ' = -9
            fault() = 2
            book '?' = -9
            fault() = 0
            """);
        edge(7, "2 a number that is none such (B of beast as A; L of fair as K; a D twice in a BOOK);", """
            hills 'folk 1 1;folk 1 1;beast 0 0 9 99;' = -8
            fault() = 26
            hills 'fair 3 3 99;' = -8
            fault() = 7
            hills 'fair 3 03 1;' = -8
            fault() = 7
            book '3 1;12 1;3 100;' = -8
            fault() = 9
            book '3 1;3' = -8
            fault() = 4
            law '1000' = -8
            fault() = 0
            """);
        edge(7, "3 a CLAUSE, FOLK, BEAST or FAIR (at its word), a line (at its D) too many,",
            "hills '" + SIX_FOLK + "  folk x' = -7\nfault() = 56\n"
            + "hills '" + SIX_FOLK + "folk' = -7\nfault() = 54\n"
            + "hills '" + SIX_FOLK + TWELVE_BEASTS + "beast 9 9' = -7\nfault() = 222\n"
            + "hills '" + TEN_FAIRS + "fair 9' = -7\nfault() = 110\n" + """
            book '1 1;2 1;3 1;4 1;5 1;6 1; 7' = -7
            fault() = 25
            book '1 1;2 1;3 1;4 1;5 1;6 1;12 100;' = -7
            fault() = 24
            """);
    }

    private void openAtOneTime() {
        edge(7, "or a 7th of ( least most again that is open at one time;", """
            law '((((((1))))))' = 1
            law '(((((((1)))))))' = -7
            fault() = 6
            law '((((((1))))))+((((((1))))))' = 1
            law '(1)+(1)+(1)+(1)+(1)+(1)+(1)+(1)' = 1
            law '((((((1))))))+(((((((1)))))))' = -7
            fault() = 20
            law 'least[least[least[least[least[least[1,1],1],1],1],1],1]' = 1
            law '((((((least' = -7
            fault() = 6
            law '((((((most[1,1]))))))' = -7
            fault() = 6
            law '(((((most[1,(1)])))))' = -7
            fault() = 12
            law '(((((most[(1),1])))))' = -7
            fault() = 10
            law 'most[1,most[1,most[1,most[1,most[1,most[1,1]]]]]]' = 1
            law 'most[1,most[1,most[1,most[1,most[1,most[1, most[1,1]]]]]]]' = -7
            fault() = 43
            """);
        edge(7, "or a 7th of ( least most again that is open at one time;", """
            work 'again 1[again 1[again 1[again 1[again 1[again 1[day;];];];];];];' = 1
            work 'again 1[again 1[again 1[again 1[again 1[again 1[again 1[];];];];];];];' = -7
            fault() = 48
            work 'again 1[again 1[again 1[again 1[again 1[again 1[ again' = -7
            fault() = 49
            work 'again 0[again 0[again 0[again 0[again 0[again 0[again 99' = -7
            fault() = 48
            work 'again 1[];again 1[];again 1[];again 1[];again 1[];again 1[];again 1[day;];' = 1
            work 'again 1[again 1[again 1[again 1[again 1[again 1[];again 1[day;];];];];];];' = 1
            """);
        edge(7, "of one the least.", """
            book '1 1;2 1;3 1;4 1;5 1;6 1;6 1;' = -8 // a line too many, and a D twice
            fault() = 24
            book '1 1;2 1;3 1;4 1;5 1;6 1;13 1;' = -8
            fault() = 24
            book '1 1;2 1;3 1;4 1;5 1;6 1;0 1;' = -8
            fault() = 24
            book '1 1;2 1;3 1;4 1;5 1;6 1;x 1;' = -9
            fault() = 24
            law '((((((1(' = -9 // a 7th, where none can stand
            fault() = 7
            law '((((((1 least' = -9
            fault() = 8
            work 'again 1[again 1[again 1[again 1[again 1[again 1[day again' = -9
            fault() = 52
            """ + "hills '" + SIX_FOLK.substring(0, 53) + " folk 0 0;' = -9\nfault() = 54\n");
    }

    private void stepsBegun() {
        String sentence = "200 STEPS at most are begun by one WORK (an again, too, each time it is come to; REFUSED ones, too),"
            + " what would come behind is left out.";
        edge(5, sentence, """
            hills 'folk 0 0;' = 0
            work 'again 60[day;day;day;];again 17[day;];hay 0 5;' = 198 // 1, 180, 1, 17, 1
            folk(0, 0) = 5
            undo() = 0
            work 'again 60[day;day;day;];again 18[day;];hay 0 5;' = 198 // 1, 180, 1, 18
            folk(0, 0) = 0
            told(3) = 198
            told(10) = 0
            undo() = 0
            work 'again 60[day;day;day;];again 17[day;];again 9[day;];' = 197 // the last again is the 200th
            told(3) = 197
            undo() = 0
            work 'again 60[day;day;day;];again 16[day;];again 9[day;];' = 197 // 1, 180, 1, 16, 1, 1
            told(3) = 197
            """);
        edge(5, sentence, """
            hills 'folk 0 0;' = 0
            work 'again 60[hay 0 1;hay 0 1;hay 0 1;];again 60[day;];' = 117 // 99 of 180, and 18
            told(10) = 81
            told(3) = 18
            undo() = 0
            work 'again 60[again 1[day;];];again 60[again 1[day;];];' = 99
            told(3) = 99
            undo() = 0
            work 'again 60[again 0[day;];again 0[];again 0[];];again 60[day;];' = 18
            told(3) = 18
            told(10) = 0
            undo() = 0
            work 'again 60[again 60[again 60[again 60[];];];];day;' = 0
            told(3) = 0
            """);
    }

    private void steps() {
        edge(3, "It is DAY 0 at first; all BEASTS are there, each on the pasture of its A; nobody is cool to anybody.", """
            {two}
            work 'kill 0;day;drive 1 0;ask 1;' = 4
            {two}
            told(3) = 0
            told(4) = 3
            beast(0, 4) = 0
            beast(1, 4) = 1
            beast(0, 5) = 0
            driven() = 0
            cool(0, 1) = 0
            told(11) = 0
            coolest(0) = -1
            """);
        edge(5, "STEPS are done in order; one that can't be done is REFUSED, and changes nothing;", """
            {two}
            work 'do 0;ask 0;do 0;' = 2
            told(10) = 1
            told(4) = 3
            work 'ask 0;ask 0;kill 0;drive 0 1;' = 1
            told(10) = 3
            told(4) = 2
            told(11) = 0
            beast(0, 4) = -1
            work 'drive 0 1;do 0;' = 1 // what was REFUSED is not made up for
            beast(0, 4) = 0
            told(10) = 1
            work 'drive 1 1;do 1;' = 0
            told(10) = 2
            beast(1, 4) = 1
            beast(1, 5) = 0
            """);
        edge(5, "ask: X is gone (REFUSED, if it is).", """
            {two}
            work 'ask 0;' = 1
            told(10) = 0
            beast(0, 3) = 0
            told(4) = 2
            cool(0, 1) = 0
            work 'ask 0;' = 0
            told(10) = 1
            told(4) = 2
            """);
        edge(5, "drive: X is on the pasture of FOLK P (REFUSED, if it is gone, or is there).", """
            {two}
            work 'drive 0 0;' = 0
            told(10) = 1
            work 'drive 0 1;' = 1
            beast(0, 4) = 1
            work 'drive 0 1;' = 0
            told(10) = 1
            beast(0, 4) = 1
            work 'ask 0;drive 0 0;' = 1
            told(10) = 1
            beast(0, 4) = -1
            """);
        edge(5, "kill: X is gone, and its A and B are cooler by 1, 9 at most (REFUSED, if it is gone).", """
            {two}
            work 'kill 0;' = 1
            told(4) = 2
            cool(0, 1) = 1
            cool(1, 0) = 1
            work 'kill 0;' = 0
            told(10) = 1
            cool(0, 1) = 1
            work 'again 8[do 0;kill 0;];' = 16
            cool(0, 1) = 9
            work 'do 0;kill 0;kill 1;' = 3 // it is done, though they can't be cooler
            told(10) = 0
            cool(0, 1) = 9
            told(4) = 0
            told(8) = 0
            """);
        edge(5, "do: X is there again as told, of age 0 (REFUSED, if it is there).", """
            hills 'folk 0 0;folk 9 0;beast 0 1 3 9;' = 1
            work 'do 0;' = 0
            told(10) = 1
            work 'day;drive 0 1;' = 2
            beast(0, 3) = 8
            beast(0, 5) = 1
            work 'do 0;' = 0
            beast(0, 4) = 1
            work 'ask 0;do 0;' = 2
            beast(0, 3) = 9
            beast(0, 4) = 0
            beast(0, 5) = 0
            work 'kill 0;do 0;' = 2
            beast(0, 3) = 9
            work 'again 9[day;];' = 9
            beast(0, 3) = 0
            told(8) = 1
            work 'do 0;' = 1 // it starved, and is done again
            beast(0, 3) = 9
            told(8) = 1
            """);
        edge(5, "hay: the GRASS of P is N more, 99 at most (REFUSED, if it is 99).", """
            hills 'folk 98 0;folk 99 0;folk 39 0;folk 40 0;' = 0
            work 'hay 2 60;hay 3 60;' = 2
            folk(2, 0) = 99
            folk(3, 0) = 99
            work 'hay 0 1;' = 1
            folk(0, 0) = 99
            work 'hay 0 1;hay 1 60;hay 2 1;' = 0
            told(10) = 3
            told(5) = 396
            """);
    }

    private void days() {
        edge(5, "day (REFUSED on DAY 400):", """
            hills 'folk 0 0;folk 1 1;beast 1 0 0 1;' = 1
            {day 400}
            told(3) = 400
            beast(0, 5) = 400
            work 'day;hay 0 1;' = 1
            told(10) = 1
            told(3) = 400
            beast(0, 5) = 400
            undo() = 3
            undo() = 2
            told(3) = 360
            work 'again 39[day;];' = 39
            work 'day;day;' = 1
            told(10) = 1
            told(3) = 400
            """);
        edge(5, "what each BEAST EATS is reckoned as the DAY begins;", """
            hills 'folk 20 9;folk 0 0;beast 0 1 0 9;beast 0 1 0 9;beast 0 1 0 1;' = 3
            law 'grass / 4 + others * 2 + day * 20 + age' = 1
            told(7) = 27
            work 'day;' = 1 // 9 each: 9, 9, and 2 for the last one, which is gone
            folk(0, 0) = 9
            beast(0, 3) = 9
            beast(1, 3) = 9
            told(4) = 3
            """);
        edge(5, "then by numbers each eats as much from the pasture it is on, as far as that lasts;", """
            hills 'folk 5 0;folk 2 0;beast 1 0 0 9;beast 0 1 0 9;beast 0 1 0 9;beast 0 1 0 9;' = 4
            law '3' = 1
            work 'drive 0 0;day;' = 2 // 3, 2, 0, 0
            folk(0, 0) = 0
            folk(1, 0) = 2
            beast(0, 3) = 9
            beast(1, 3) = 8
            beast(2, 3) = 6
            beast(3, 3) = 6
            """);
        edge(5, "by what was not there it is lighter; if that leaves 0 or less of it, it is gone (one more STARVED).", """
            hills 'folk 0 9;folk 0 0;beast 0 1 0 6;beast 0 1 0 5;beast 0 1 0 4;beast 0 1 0 1;' = 4
            law '5' = 1
            work 'day;' = 1
            beast(0, 3) = 1 // 1 is left
            beast(0, 5) = 1
            beast(1, 3) = 0 // 0 is left
            beast(1, 4) = -1
            beast(1, 5) = 0
            beast(2, 3) = 0 // less
            beast(3, 3) = 0
            told(4) = 1
            told(8) = 3
            told(11) = 0
            folk(0, 0) = 9
            """);
        edge(5, "Then each BEAST that is there is a DAY older, each GRASS grows (99 at most), the DAY is one more.", """
            hills 'folk 90 9;folk 91 9;folk 99 9;folk 99 0;folk 0 9;beast 0 1 0 9;beast 1 0 0 9;' = 2
            law '0' = 1
            work 'ask 1;day;' = 2
            beast(0, 5) = 1
            beast(1, 5) = 0
            folk(0, 0) = 99
            folk(1, 0) = 99
            folk(2, 0) = 99
            folk(3, 0) = 99
            folk(4, 0) = 9
            told(3) = 1
            law '20' = 1
            work 'day;' = 1
            folk(0, 0) = 88 // eaten first, then grown
            """);
    }

    /** Each question is asked of one of two like objects; then both must be alike, now and by what they do next. */
    private void asked() {
        String[] questions = {"9 told 7", "10 folk 1 5", "11 beast 0 6", "13 cool 0 1", "14 would 30 5 999 99 12 9 400 12",
            "15 ahead 99 0", "15 ahead 1 2", "16 bare 0", "16 bare 1", "17 cancel", "18 herd 0 0", "18 herd 1 1",
            "19 paid 0 0", "19 paid 1 1", "20 unseen 0 0", "20 unseen 1 1", "21 look 0 0", "21 look 1 1", "22 way 0 1",
            "23 price 0 1", "24 owing 5 3 2", "25 home 12 5 7 0", "26 share 0 3 40", "27 heaviest 0", "28 oldest 0",
            "29 overrun", "30 good 0", "31 kind 0", "32 driven", "33 weighs 0 0", "34 lightest 0", "35 coolest 0",
            "36 round 0", "37 decade 7 96 16 0", "37 decade -1 1 0 2", "38 span 7 20 96 9 2 1", "41 status 0", "42 count 2"};
        for (String row : questions) {
            String[] words = row.split(" ");
            int[] arguments = new int[words.length - 2];
            for (int i = 0; i < arguments.length; i++) {
                arguments[i] = Integer.parseInt(words[i + 2]);
            }
            FavourBeasts one = Grown.make();
            String first = Calls.answer(one, words[1], arguments);
            boolean alike = first.equals(Calls.answer(one, words[1], arguments)) && Grown.alike(one, Grown.make());
            edges.holds(Integer.parseInt(words[0]), "Asked, nothing stays changed;", alike, row + " changed something");
        }
        edge(15, "DAYS go by as by day (beyond 400, too).", """
            hills 'folk 9 0;folk 0 1;beast 0 1 0 2;' = 1
            law 'most[0, day - 399]' = 1
            {day 400}
            told(3) = 400
            ahead(0, 0) = 108
            ahead(1, 0) = 107 // eats 1
            ahead(2, 0) = 105 // 2
            ahead(3, 0) = 102
            ahead(4, 0) = 99 // 3 of 4: 1 lighter
            ahead(4, 2) = 1
            ahead(5, 1) = 0
            bare(0) = 4
            unseen(0, 0) = 180
            book '1 7;' = 1
            unseen(0, 0) = 180
            law '0' = 1
            decade(0, 96, 0, 0) = 108
            told(3) = 400
            """);
    }

    private void bare() {
        edge(16, "BARE of FOLK: in how many DAYS (0 to 99), nothing else being done, there is no GRASS on that pasture; NONE.", """
            hills 'folk 0 9;folk 99 0;folk 98 0;folk 99 0;beast 1 0 0 30;beast 2 0 0 30;beast 3 0 0 30;' = 3
            law '1 - beast % 2 * day % 2' = 1
            bare(0) = 0 // now
            bare(1) = 99
            bare(3) = 99
            law 'least[1, age + beast % 2]' = 1
            bare(1) = -1 // 100
            bare(2) = 98
            bare(3) = -1
            work 'ask 1;' = 1
            bare(2) = -1
            hills 'folk 5 1;folk 5 0;beast 0 1 0 9;beast 1 0 0 9;' = 2
            law '6' = 1
            bare(0) = -1 // it is bare within a DAY alone, and grows behind it
            bare(1) = 1
            hills 'folk 5 0;folk 0 0;' = 0
            bare(0) = -1
            bare(1) = 0
            """);
    }

    private void sets() {
        edge(17, "CANCEL: of all sets of BEASTS that are there of which each FOLK is A of as many as it is B of,"
            + " that of most BEASTS; of as many the least bits.", """
            cancel() = 0
            hills 'folk 0 0;folk 0 0;folk 0 0;beast 0 1 0 1;beast 0 1 0 1;beast 1 0 0 1;beast 1 2 0 1;beast 2 0 0 1;' = 5
            cancel() = 31 // 0 and 2; 1, 3 and 4
            work 'drive 0 2;' = 1 // it is who did it that counts
            cancel() = 31
            work 'ask 4;' = 1
            cancel() = 5
            """);
        edge(17, "of as many the least bits.", """
            hills 'folk 0 0;folk 0 0;folk 0 0;beast 0 1 0 1;beast 0 1 0 1;beast 1 0 0 1;beast 1 2 0 1;' = 4
            cancel() = 5 // 0 with 2, or 1 with 2
            work 'ask 0;' = 1
            cancel() = 6
            work 'ask 2;' = 1
            cancel() = 0
            hills 'folk 0 0;folk 0 0;folk 0 0;beast 0 1 0 1;beast 1 2 0 1;beast 2 0 0 1;beast 1 0 0 1;beast 2 1 0 1;' = 5
            cancel() = 27 // 0 and 3, 1 and 4: four; 0, 1, 2 are but three
            work 'ask 4;' = 1
            cancel() = 7
            """);
        edge(18, "HERD of FOLK: of all sets of BEASTS that are there, wherever they are, whose EATS as now are no more than its"
            + " GRASS together, that whose WEIGHTS are most together;", """
            hills 'folk 2 0;folk 0 0;folk 99 0;beast 0 1 0 9;beast 0 1 0 8;beast 0 1 0 7;' = 3
            herd(1, 0) = 0 // no GRASS: none
            herd(1, 1) = 0
            herd(0, 0) = 17 // as much as there is
            herd(0, 1) = 3
            herd(2, 0) = 24
            herd(2, 1) = 7
            law '0' = 1
            herd(1, 0) = 24 // none eats
            herd(1, 1) = 7
            law '3' = 1
            herd(0, 1) = 0
            law 'beast' = 1
            work 'drive 0 2;' = 1
            herd(0, 0) = 17
            work 'ask 0;' = 1
            herd(0, 0) = 8
            herd(0, 1) = 2
            """);
        edge(18, "of alike ones the fewest, of as few the least bits.", """
            hills 'folk 2 0;folk 0 0;beast 0 1 0 4;beast 0 1 0 5;beast 0 1 0 9;beast 0 1 0 9;' = 4
            law 'weight / 9 + 1' = 1
            herd(0, 0) = 9 // 4 and 5, or a 9
            herd(0, 1) = 4
            work 'ask 2;' = 1
            herd(0, 1) = 8
            work 'ask 3;' = 1
            herd(0, 1) = 3
            """);
        edge(19, "PAID by a BEAST: sets of other BEASTS that are there whose WEIGHTS together are its own: how many,"
            + " the first (fewest, then least bits; NONE).", """
            hills 'folk 0 0;folk 0 0;beast 0 1 0 3;beast 0 1 0 1;beast 0 1 0 2;beast 0 1 0 1;beast 0 1 0 1;beast 0 1 0 30;' = 6
            paid(0, 0) = 4 // 1, 2; 2, 3; 2, 4; 1, 3, 4
            paid(0, 1) = 6 // of the pairs the least bits
            paid(5, 0) = 0
            paid(5, 1) = -1
            paid(1, 0) = 2 // of one
            paid(1, 1) = 8
            work 'ask 2;' = 1
            paid(0, 0) = 1
            paid(0, 1) = 26
            work 'ask 4;' = 1
            paid(0, 0) = 0
            paid(0, 1) = -1
            hills 'folk 0 0;folk 0 0;beast 0 1 0 1;' = 1
            paid(0, 0) = 0 // not by itself, not by none
            paid(0, 1) = -1
            """);
    }

    private void unseen() {
        edge(20, "UNSEEN on a pasture by BOOK: pairs of a KIND (0 to 5) and a WEIGHT (1 to 30) by which, were one more BEAST"
            + " of these there from now on", """
            hills 'folk 90 0;folk 0 0;beast 1 0 0 1;' = 1
            unseen(0, 0) = 180 // without lines all are right
            unseen(0, 1) = 1
            law 'kind' = 1
            book '1 90;' = 1
            unseen(0, 0) = 30
            unseen(0, 1) = 1
            book '1 85;' = 1
            unseen(0, 0) = 30
            unseen(0, 1) = 501
            book '1 84;' = 1
            unseen(0, 0) = 0
            unseen(0, 1) = -1
            law 'weight / 30' = 1
            book '1 89;' = 1
            unseen(0, 0) = 6
            unseen(0, 1) = 30
            law '1 / weight * 3' = 1
            book '1 87;' = 1
            unseen(0, 0) = 6
            unseen(0, 1) = 1
            """);
        edge(20, "(behind all others, its number 12, its age 0, cool 0),", """
            hills 'folk 5 0;folk 0 0;beast 0 1 0 30;' = 1
            law 'most[4, beast - 7]' = 1
            book '1 0;2 0;' = 2 // it gets 1 of 5
            unseen(0, 0) = 180
            law 'beast' = 1
            book '1 0;' = 1
            unseen(0, 0) = 180
            hills 'folk 50 0;folk 0 0;beast 0 1 0 30;' = 1
            law 'age' = 1
            work 'day;day;' = 2
            book '1 46;2 42;' = 2 // 49 by now: 2 and 0 less, 3 and 1 less
            unseen(0, 0) = 0
            book '1 47;2 43;' = 2
            unseen(0, 0) = 180
            law '1 + cool' = 1
            work 'kill 0;do 0;' = 2
            book '1 46;' = 1 // 2 and 1
            unseen(0, 0) = 180
            """);
        edge(20, "(behind all others, its number 12, its age 0, cool 0),", """
            {twelve}
            law 'others / 12' = 1
            work 'drive 1 0;drive 3 0;drive 5 0;drive 7 0;drive 9 0;drive 11 0;' = 6
            told(7) = 0 // each has 11 others, and 12 by the one unseen
            book '1 95;' = 1
            unseen(0, 0) = 180
            hills 'folk 99 0;folk 0 0;beast 0 1 0 1;' = 1
            law 'others * 7' = 1
            book '1 85;' = 1 // each is one more to the other
            unseen(0, 0) = 180
            """);
        edge(20, "nothing else being done, all lines are right:", """
            hills 'folk 90 0;folk 0 0;' = 0
            law 'most[0, age - 10] * kind' = 1
            book '11 90;12 85;' = 2
            unseen(0, 0) = 30 // DAY 12 tells KIND 5
            unseen(0, 1) = 501
            book '11 89;12 85;' = 2
            unseen(0, 0) = 0
            book '12 90;' = 1
            unseen(0, 0) = 30
            unseen(0, 1) = 1
            """);
        edge(20, "how many, the first (by KIND, then WEIGHT).", """
            hills 'folk 90 0;folk 0 0;' = 0
            law '(kind + weight) / 8' = 1
            book '1 89;' = 1
            unseen(0, 0) = 48 // 8 of each
            unseen(0, 1) = 8
            law 'least[1, kind] * weight / 29' = 1
            unseen(0, 0) = 10
            unseen(0, 1) = 129
            """);
        edge(21, "LOOK: the DAY (1 to 12) in no line by which, whatever GRASS there is then, fewest such pairs are left at the"
            + " worst, of these the first.", """
            hills 'folk 90 0;folk 0 0;' = 0
            law '0' = 1
            look(0, 0) = 1 // all alike: the first
            look(0, 1) = 180
            book '1 90;2 90;3 90;4 90;5 90;6 90;' = 6
            look(0, 0) = 7
            look(0, 1) = 180
            book '2 90;' = 1
            look(0, 0) = 1
            law 'most[0, age - 10] * kind' = 1
            look(0, 0) = 12
            look(0, 1) = 30
            book '12 85;' = 1
            look(0, 0) = 1
            look(0, 1) = 30
            book '1 3;' = 1 // none is left: the first in no line
            look(0, 0) = 2
            look(0, 1) = 0
            law 'kind / 3' = 1
            book '' = 0
            look(0, 0) = 1
            look(0, 1) = 90
            """);
    }

    private void waysAndPrices() {
        edge(22, "WAY of two FOLK: the fewest BEASTS that are there, the one is B of the first one, A of each is B of the next"
            + " one, the other one is A of the last one; NONE.", """
            hills 'folk 0 0;folk 0 0;folk 0 0;folk 0 0;folk 0 0;folk 0 0;beast 1 0 0 1;beast 2 1 0 1;beast 3 2 0 1;beast 4 3 0 1;beast 5 4 0 1;beast 3 0 0 1;' = 6
            way(0, 0) = 0
            way(0, 1) = 1
            way(1, 0) = -1
            way(0, 5) = 3 // by 5, 3, 4
            work 'ask 5;' = 1
            way(0, 5) = 5
            way(5, 0) = -1
            work 'ask 2;' = 1
            way(0, 5) = -1
            way(0, 2) = 2
            way(3, 5) = 2
            way(2, 2) = 0
            """);
        edge(23, "PRICE of two KINDS: the fewest of the one for one of the other one by FAIRS, one behind the other (all N"
            + " multiplied; 1: one KIND);", """
            price(0, 0) = 1
            price(5, 5) = 1
            hills 'fair 0 1 9;fair 0 2 2;fair 2 1 4;fair 1 0 1;' = 0
            price(0, 1) = 8
            price(0, 2) = 2
            price(2, 0) = 4
            price(0, 0) = 1
            hills 'fair 0 1 1;fair 1 2 1;fair 2 3 1;fair 3 4 1;fair 4 5 1;' = 0
            price(0, 5) = 1
            price(5, 0) = -1
            """);
        edge(23, "NONE: not, or more than 999.", """
            price(0, 1) = -1
            hills 'fair 0 1 9;fair 1 2 9;fair 2 3 4;fair 3 4 3;' = 0
            price(0, 4) = 972
            hills 'fair 0 1 5;fair 1 2 5;fair 2 3 5;fair 3 4 8;' = 0
            price(0, 4) = -1 // 1000
            price(0, 3) = 125
            price(4, 0) = -1
            hills 'fair 0 1 9;fair 1 2 9;fair 2 3 9;fair 3 4 9;fair 4 5 9;' = 0
            price(0, 5) = -1
            price(0, 3) = 729
            price(1, 4) = 729
            """);
    }

    private void reckonings() {
        edge(24, "OWING by v, w: each of two does the other one a kindness, or not; who does one has w less; who is done one has"
            + " v more, but 0 more if he did none himself;", """
            owing(5, 3, 2) = 4 // 5 - 3 each
            owing(99, 0, 2) = 198
            owing(99, 99, 2) = 0
            owing(3, 5, 1) = 11
            owing(3, 5, 2) = 0
            owing(0, 0, 2) = 0
            """);
        edge(24, "RESTS: neither would have more by the other thing.", """
            owing(6, 5, 0) = 2
            owing(5, 5, 0) = 2 // alike is not more
            owing(5, 6, 0) = 1
            owing(5, 6, 1) = 11
            owing(1, 0, 0) = 2 // who does one in vain has as much
            owing(0, 0, 0) = 4
            owing(0, 1, 0) = 1
            """);
        edge(25, "HOME of n, k, q: each of n strays comes home by q of 16, each by itself: how likely no more than k do not.", """
            home(0, 0, 0, 0) = 1 // no strays
            home(0, 12, 7, 1) = 1
            home(12, 12, 0, 0) = 1 // all may be lost
            home(12, 11, 0, 0) = 0
            home(12, 11, 0, 1) = 1
            home(12, 0, 16, 0) = 1
            home(1, 0, 1, 0) = 1
            home(1, 0, 1, 1) = 16
            home(2, 5, 3, 0) = 1 // k beyond n
            home(2, 0, 4, 1) = 16
            home(2, 1, 4, 0) = 7
            home(2, 1, 4, 1) = 16
            home(12, 0, 1, 0) = 1
            home(12, 0, 1, 1) = 281474976710656
            home(12, 11, 1, 0) = 151728638820031 // 16 to the 12th less 15 to the 12th
            home(12, 11, 1, 1) = 281474976710656
            """);
    }

    private void shares() {
        edge(26, "SHARES of n among told FOLK (bits) by how much GRASS is missing to 99: levelled: no more than that each,"
            + " no more than a bound, the greatest by which no more than n are given (all, if they are no more).", """
            hills 'folk 99 0;folk 98 0;folk 90 0;folk 0 0;' = 0
            share(0, 15, 999) = 0 // nothing is missing
            share(1, 15, 999) = 1
            share(2, 15, 999) = 9
            share(3, 15, 999) = 99
            share(3, 15, 109) = 99 // just all
            share(3, 15, 108) = 98
            share(3, 15, 0) = 0
            share(3, 15, 2) = 0 // 1 each would be 3
            share(3, 15, 3) = 1
            share(1, 15, 3) = 1
            share(3, 15, 4) = 1 // what is left over is given to none
            share(2, 15, 4) = 1
            share(2, 15, 5) = 2
            share(2, 12, 18) = 9
            share(3, 12, 18) = 9
            share(3, 12, 19) = 10
            share(2, 4, 5) = 5
            share(0, 1, 5) = 0
            share(3, 8, 98) = 98
            """);
    }

    private void decades() {
        edge(37, "A DECADE by a SEED: for so many DAYS: DRAWN by how many BEASTS were told: ask (if it can be done), else do;", """
            {twelve}
            law '0' = 1
            decade(0, 1, 0, 1) = 4094 // 0
            decade(1, 1, 0, 1) = 4091 // 2
            decade(-1, 1, 0, 1) = 4063 // 5
            decade(0, 2, 0, 1) = 4078 // 0, and 9988 of 12
            work 'ask 0;' = 1
            decade(0, 1, 0, 1) = 4095 // it is done again
            decade(1, 1, 0, 1) = 4090
            hills 'folk 0 0;folk 0 0;beast 0 1 0 1;' = 1
            law '0' = 1
            decade(9, 1, 0, 1) = 0 // one is told: it is drawn
            decade(9, 2, 0, 1) = 1
            decade(9, 95, 0, 1) = 0
            decade(9, 96, 0, 1) = 1
            """);
        edge(37, "DRAWN by 16 below Q: drive of DRAWN by how many BEASTS were told to DRAWN by how many FOLK (two DRAWN more;"
            + " if it can); then day.", """
            hills 'folk 20 0;folk 20 0;folk 20 0;beast 0 1 0 10;beast 1 2 0 10;beast 2 0 0 10;' = 3
            law 'others' = 1
            decade(1, 1, 0, 0) = 60 // 2 is asked back; 5758 of 16 is 14
            decade(1, 1, 14, 0) = 60
            decade(1, 1, 15, 0) = 58 // 10113 of 3, 0, to 17515 of 3, 1
            decade(1, 1, 16, 0) = 58
            decade(0, 1, 12, 0) = 60 // 21468 of 16 is 12
            decade(0, 1, 13, 0) = 60 // 9988 of 3, 1, to 22117 of 3, 1: it is there
            decade(0, 2, 12, 1) = 4 // so 9988 is the next one asked back
            decade(0, 2, 13, 1) = 7 // and here 3498 of 3, 0, is done again
            law 'day + 1' = 1
            decade(0, 1, 0, 0) = 58
            """);
        edge(37, "Without BEASTS nothing is DRAWN, DAYS go by.", """
            decade(5, 96, 16, 0) = 0
            decade(5, 96, 16, 1) = 0
            hills 'folk 3 1;folk 0 2;' = 0
            decade(5, 1, 16, 0) = 6
            decade(5, 96, 16, 0) = 198
            decade(6, 1, 16, 0) = 6
            hills 'folk 3 1;' = 0
            decade(5, 1, 16, 0) = 4
            """);
    }

    private void drawn() {
        edge(37, "What is DRAWN: the SEED (32 bits) becomes itself times 1,103,515,245, and 12,345 (it wraps);", """
            {twelve}
            law '0' = 1
            decade(2147483647, 1, 0, 1) = 4063 // as -1: bit 31 is none of those drawn
            decade(-1, 1, 0, 1) = 4063
            decade(-2147483648, 1, 0, 1) = 4094 // as 0
            decade(-2147483647, 1, 0, 1) = 4091 // as 1
            decade(65536, 1, 0, 1) = 4093
            decade(5, 1, 0, 1) = 3967
            """);
        edge(38, "its bits 16 to 30, what is left of them.", """
            {twelve}
            law '0' = 1
            decade(5, 1, 0, 1) = 3967 // 18655 of 12 is 7
            decade(5, 2, 0, 1) = 3711 // 10616 of 12 is 8
            decade(19, 2, 0, 1) = 3807 // 25016 of 12 is 8, 12377 of 12 is 5
            span(2147483647, 2, 1, 0, 0, 0) = 198
            """);
    }
}
