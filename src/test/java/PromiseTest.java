import java.util.ArrayList;
import java.util.List;

/** Each promise by rows of calls whose answers were reckoned by hand from the document. */
public final class PromiseTest {
    private static final String IAE = "throws.IllegalArgumentException";
    private static final String NSEE = "throws.NoSuchElementException";
    private static final String FAIR_HILLS = "folk 10 2;folk 30 0;folk 5 9;beast 0 1 0 12;beast 0 2 1 5;"
        + "beast 1 0 2 30;beast 2 0 1 7;fair 0 1 3;fair 1 2 2;fair 0 2 7;";

    private final List<Script> scripts = new ArrayList<>();

    private void promise(int number, String text) {
        Script script = new Script("promise " + number);
        script.run(text.replace("HILLS", "hills '" + FAIR_HILLS + "' = 4").replace("NSEE", NSEE).replace("IAE", IAE));
        scripts.add(script);
    }

    public static void main(String[] args) {
        PromiseTest test = new PromiseTest();
        test.texts();
        test.workSteps();
        test.workLimits();
        test.past();
        test.whatStands();
        test.daysAhead();
        test.sets();
        test.unseen();
        test.waysAndPrices();
        test.reckonings();
        test.firsts();
        test.bits();
        test.decades();
        test.counts();
        boolean passed = true;
        for (Script script : test.scripts) {
            passed &= script.passed();
        }
        System.out.println(passed ? "PromiseTest: all answers are as due" : "PromiseTest: answers are not as due");
        if (!passed) {
            System.exit(1);
        }
    }

    private void texts() {
        promise(1, """
            told(0) = 0
            told(1) = 0
            told(2) = 0
            told(3) = 0
            told(4) = 0
            told(5) = 0
            told(6) = 0
            told(7) = 0
            told(8) = 0
            told(9) = 0
            told(10) = 0
            told(11) = 0
            fault() = -1
            count(0) = 0
            count(1) = 0
            count(2) = 0
            status(0) = 0
            status(1) = 0
            undo() = -1
            restore() = -1
            would(30, 0, 0, 0, 0, 0, 0, 0) = 4
            work 'day;day;' = 2
            told(3) = 2
            work 'ask 0;' = -8
            """);
        promise(2, """
            feed(0x666f6c6b, 0x20322033, 0x3b666f6c, 0x6b203420, 0x353b2020) = 20 // folk 2 3;folk 4 5;
            count(1) = 20
            hills(20) = 0
            count(1) = 0
            folk(0, 0) = 2
            folk(0, 1) = 3
            folk(1, 0) = 4
            folk(1, 1) = 5
            feed(-1, -1, -1, -1, -1) = 20
            hills(20) = -9
            fault() = 0
            """);
        StringBuilder full = new StringBuilder();
        for (int i = 1; i <= 30; i++) {
            full.append("feed(0x20202020, 0x20202020, 0x20202020, 0x20202020, 0x20202020) = ").append(20 * i).append('\n');
        }
        promise(2, full + """
            feed(1, 2, 3, 4, 5) = -1
            count(1) = 600
            status(1) = 0
            hills(600) = 0
            fault() = -1
            feed(0, 0, 0, 0, 0) = 20
            """);
        promise(3, """
            hills '  folk 7 1 ; folk9 02;beast 1 0 5 30;fair5 4 9;  ' = 1
            fault() = -1
            told(0) = 2
            told(2) = 1
            folk(1, 0) = 9
            folk(1, 1) = 2
            law '5' = 1
            book '1 1;' = 1
            work 'kill 0;day;kill 0;' = 2
            image() = 1
            told(10) = 1
            hills 'folk 1 1;x' = -9 // all stays
            fault() = 9
            told(3) = 1
            told(9) = 1
            told(10) = 1
            told(11) = 1
            count(0) = 1
            count(1) = 0
            count(2) = 1
            would(1, 0, 0, 0, 0, 0, 0, 0) = 5
            hills 'folk 0 0;folk 3 0;beast 0 1 2 1;' = 1 // all begins anew
            fault() = -1
            told(3) = 0
            told(4) = 1
            told(5) = 3
            told(8) = 0
            told(9) = 0
            told(10) = 0
            told(11) = 0
            count(0) = 0
            count(2) = 0
            undo() = -1
            restore() = -1
            would(1, 0, 0, 0, 0, 0, 0, 0) = 1
            work 'day;' = 1
            told(8) = 1
            hills 'folk 1 1;' = 0
            told(8) = 0
            told(2) = 0
            beast(0, 0) = NSEE
            fair(0, 0) = NSEE
            feed(0x666f6c6b, 0x20312031, 0x3b666f6c, 0x6b203120, 0x313b2020) = 20
            hills(21) = IAE
            count(1) = 20
            hills(-1) = IAE
            count(1) = 20
            fault() = -1
            hills(9) = 0 // the rest is gone
            told(0) = 1
            count(1) = 0
            hills(0) = 0
            told(0) = 0
            status(1) = 2
            """);
        promise(4, """
            law '7 - 2 - 1' = 1
            fault() = -1
            would(1, 0, 0, 0, 0, 0, 0, 0) = 4
            law '2 + 3 * 4' = 1
            would(1, 0, 0, 0, 0, 0, 0, 0) = 14
            law '20 / 3 * 2' = 1
            would(1, 0, 0, 0, 0, 0, 0, 0) = 12
            law '(1 + 2) * 4' = 1
            would(1, 0, 0, 0, 0, 0, 0, 0) = 12
            law '0 - 7' = 1 // 0 at least
            would(1, 0, 0, 0, 0, 0, 0, 0) = 0
            law '21' = 1 // 20 at most
            would(1, 0, 0, 0, 0, 0, 0, 0) = 20
            law '(0 - 7) / 2 + 10' = 1 // cuts
            would(1, 0, 0, 0, 0, 0, 0, 0) = 7
            law '(0 - 7) % 3 + 10' = 1
            would(1, 0, 0, 0, 0, 0, 0, 0) = 9
            law '7 % (0 - 3) + 10' = 1
            would(1, 0, 0, 0, 0, 0, 0, 0) = 11
            law '5 / 0 + 3' = 1
            would(1, 0, 0, 0, 0, 0, 0, 0) = 3
            law '5 % 0 + 3' = 1
            would(1, 0, 0, 0, 0, 0, 0, 0) = 3
            law '999*999*999*3 / 999 / 999 / 100 + 20' = 1 // wraps to -1303958299
            would(1, 0, 0, 0, 0, 0, 0, 0) = 7
            law '512*512*512*16/(0-1)/999/999/999+9' = 1
            would(1, 0, 0, 0, 0, 0, 0, 0) = 7
            law '512*512*512*16%(0-1)+6' = 1
            would(1, 0, 0, 0, 0, 0, 0, 0) = 6
            law 'least[3,5]' = 1
            would(1, 0, 0, 0, 0, 0, 0, 0) = 3
            law 'least[5,3]' = 1
            would(1, 0, 0, 0, 0, 0, 0, 0) = 3
            law 'most [ 3 , 5 ] ' = 1
            would(1, 0, 0, 0, 0, 0, 0, 0) = 5
            law 'most[5,0 - 3]' = 1
            would(1, 0, 0, 0, 0, 0, 0, 0) = 5
            law 'weight-least[3,most[kind,1]]*2' = 1
            would(17, 2, 0, 0, 0, 0, 0, 0) = 13
            law 'weight +' = -9 // the law stays
            fault() = 8
            would(17, 2, 0, 0, 0, 0, 0, 0) = 13
            law '999 - 998' = 1
            would(1, 0, 0, 0, 0, 0, 0, 0) = 1
            """);
        promise(4, "law '" + "1+".repeat(74) + "1 ' = 1\nwould(1, 0, 0, 0, 0, 0, 0, 0) = 20\n"
            + "law '" + "1-".repeat(75) + "1' = IAE\nstatus(1) = 1\ncount(1) = 160\nlaw(-1) = IAE\nlaw(149) = 1\n"
            + "count(1) = 0\nwould(1, 0, 0, 0, 0, 0, 0, 0) = 0\nlaw(0) = -9\nfault() = 0\nlaw(1) = IAE\nfault() = 0\n");
        promise(6, """
            book '' = 0
            told(9) = 0
            book ' 1 0 ; 12 99;3 5;' = 3
            fault() = -1
            told(9) = 3
            book '1 1;1 1;' = -8 // the book stays
            fault() = 4
            told(9) = 3
            book '1 1;2 1;3 1;4 1;5 1;6 1;' = 6
            told(9) = 6
            book '1 1;2 1;3 1;4 1;5 1;6 1; 7 1;' = -7
            fault() = 25
            book '1 1;2 1;3 1;4 1;5 1;6 1; 6 1;' = -8 // of one the least
            fault() = 25
            book '1 1;2 1;3 1;4 1;5 1;6 1;13 1;' = -8
            fault() = 24
            book '1 1;2 1;3 1;4 1;5 1;6 1;x' = -9
            fault() = 24
            book '0 1;' = -8
            fault() = 0
            book '13 1;' = -8
            fault() = 0
            book '1 100;' = -8
            fault() = 2
            book '1;' = -9
            fault() = 1
            book '1 1' = -9
            fault() = 3
            book '1 1 ' = -9
            fault() = 4
            told(9) = 6
            book '1 1;                                                       ' = 1
            told(9) = 1
            book '1 1;                                                         ' = IAE
            count(1) = 80
            book(-1) = IAE
            book(60) = 1
            """);
        promise(7, """
            fault() = -1
            hills 'y' = -9
            fault() = 0
            hills '' = 0
            fault() = -1
            law ' 1 1' = -9
            fault() = 3
            work '   ?' = -9
            fault() = 3
            book ';' = -9
            fault() = 0
            book(1) = IAE // no text: the latest one's fault is still there
            fault() = 0
            undo() = -1
            fault() = 0
            law '1' = 1
            fault() = -1
            """);
    }

    private void workSteps() {
        promise(5, """
            HILLS
            work '' = 0
            count(2) = 1
            work ' ask 0 ; ask 0;' = 1
            told(10) = 1
            told(4) = 14
            beast(0, 4) = -1
            work 'drive 0 1;kill 0;' = 0 // it is gone
            told(10) = 2
            told(11) = 0
            work 'do 0;do 0;' = 1
            told(10) = 1
            told(4) = 15
            beast(0, 3) = 12
            beast(0, 4) = 0
            work 'drive 0 0;drive 0 2;drive 0 2;' = 1
            told(10) = 2
            beast(0, 4) = 2
            work 'day;' = 1
            beast(0, 5) = 1
            work 'ask 0;do 0;' = 2 // as told, of age 0
            beast(0, 4) = 0
            beast(0, 5) = 0
            beast(1, 5) = 1
            kind(0) = 1
            work 'kill 3;' = 1
            cool(0, 2) = 1
            cool(2, 0) = 1
            cool(0, 1) = 0
            told(4) = 7
            work 'again 10[do 3;kill 3;];' = 20
            cool(0, 2) = 9
            told(4) = 7
            told(10) = 0
            """);
        promise(5, """
            hills 'folk 98 0;folk 99 0;folk 40 9;' = 0
            work 'hay 1 1;hay 0 60;hay 0 1;hay 2 60;' = 2
            told(10) = 2
            folk(0, 0) = 99
            folk(1, 0) = 99
            folk(2, 0) = 99
            hills 'folk 95 9;folk 0 9;' = 0
            work 'day;' = 1
            folk(0, 0) = 99
            folk(1, 0) = 9
            """);
        // The day: eaten by numbers; the last one goes without and is lighter by it.
        promise(5, """
            hills 'folk 5 3;folk 0 0;beast 0 1 0 10;beast 0 1 0 20;beast 0 1 0 4;beast 1 0 0 1;' = 4
            law 'beast * 2 + 1' = 1
            work 'day;' = 1
            beast(0, 3) = 10 // 1 of 5
            beast(1, 3) = 20 // 3 of 4
            beast(2, 3) = 0 // 1 of 5: 4 lighter, so it is gone
            beast(3, 3) = 0
            told(8) = 2
            told(4) = 3
            folk(0, 0) = 3
            beast(0, 5) = 1
            beast(2, 5) = 0
            told(3) = 1
            """);
        // What is eaten is reckoned as the day begins, by the grass and the others there are then.
        promise(5, """
            hills 'folk 20 0;folk 0 0;beast 0 1 0 9;beast 0 1 0 9;beast 0 1 0 9;' = 3
            law 'grass / 5 + others * 3' = 1
            told(7) = 30
            work 'day;' = 1
            folk(0, 0) = 0
            beast(0, 3) = 9
            beast(1, 3) = 9
            beast(2, 3) = 0 // wants 10, gets 0
            told(7) = 6
            work 'day;' = 1
            beast(0, 3) = 6
            beast(1, 3) = 6
            """);
        // Age, cool and day in the law as they are by then.
        promise(5, """
            hills 'folk 90 0;folk 90 0;beast 0 1 3 30;beast 1 0 4 30;' = 2
            law 'age + cool * 3 + day' = 1
            work 'kill 0;do 0;day;day;' = 4
            folk(0, 0) = 82 // 3, then 3 + 1 + 1
            folk(1, 0) = 82
            beast(0, 6) = 7
            work 'drive 1 0;day;' = 2
            folk(0, 0) = 68
            folk(1, 0) = 82
            beast(1, 5) = 3
            """);
    }

    private void workLimits() {
        promise(5, """
            hills 'folk 0 0;folk 0 0;beast 0 1 0 1;' = 1
            work 'again 60 [ask 0;do 0;];again 60 [ask 0;do 0;];day;' = 198 // 2 agains, nothing behind the 200th
            told(10) = 0
            told(3) = 0
            told(4) = 1
            work 'again 60 [again 1 [day;];];again 60 [again 1 [day;];];' = 99 // 121 begun, 1, and 39 times 2
            told(3) = 99
            undo() = 1
            work 'again 0 [day;];day;' = 1
            told(3) = 1
            undo() = 1
            work 'again 60 [again 60 [];];again 60 [again 60 [];];again 60 [again 60 [];];again 60 [again 60[];];day;' = 0
            told(3) = 0
            undo() = 1
            work 'again 60 [again 60 [];];again 60 [again 60 [];];again 60 [again 60 [];];again 12 [];again 60[day;];' = 15
            told(3) = 15
            work 'again 2[again 2[again 2[again 2[again 2[again 1[day;];];];];];];' = 32
            told(10) = 0
            """);
        promise(5, """
            hills 'folk 7 0;folk 0 0;' = 0
            work 'again 60[day;];again 60[day;];again 60[day;];' = 180
            work 'again 60[day;];again 60[day;];again 60[day;];' = 180
            work 'again 40[day;];' = 40
            told(3) = 400
            work 'day;hay 0 1;day;' = 1
            told(10) = 2
            told(3) = 400
            folk(0, 0) = 8
            """);
        StringBuilder sixteen = new StringBuilder("hills 'folk 0 0;' = 0\n");
        for (int i = 0; i < 16; i++) {
            sixteen.append("work '").append(i == 3 ? "" : "day;").append("' = ").append(i == 3 ? 0 : 1).append('\n');
        }
        promise(5, sixteen + """
            count(2) = 16
            work 'x' = -20
            fault() = -1
            count(1) = 0
            law 'x' = -9
            work 'hay 0 1;hay 0 60;hay 0 60;' = -20
            fault() = -1
            folk(0, 0) = 0
            work(1) = IAE // ahead of it
            undo() = 15
            work 'x' = -9
            work 'hay 0 60;hay 0 60;hay 0 60;' = 2
            told(10) = 1
            work 'day;' = -20
            told(10) = 1
            count(2) = 16
            """);
        promise(5, """
            HILLS
            work 'ask 0;ask 0;ask 4;' = -8 // none is done
            fault() = 16
            told(4) = 15
            told(10) = 0
            count(2) = 0
            work 'ask 0;ask 0;' = 1
            work 'day;days;' = -9
            fault() = 4
            told(10) = 1
            count(2) = 1
            work 'day;' = 1
            told(10) = 0
            """);
        String blanks = " ".repeat(146);
        promise(5, "work '" + blanks + "day;' = 1\nwork '" + blanks + " day;' = IAE\ncount(1) = 160\ntold(3) = 1\n"
            + "work(-1) = IAE\nwork(150) = -9\nfault() = 150\ncount(1) = 0\n");
    }

    private void past() {
        promise(8, """
            undo() = -1
            HILLS
            work 'kill 0;day;drive 1 2;hay 1 9;kill 0;' = 4
            work 'ask 2;' = 1
            undo() = 1
            told(4) = 14
            told(10) = 0
            told(3) = 1
            undo() = 0
            told(3) = 0
            told(4) = 15
            told(5) = 45
            told(11) = 0
            beast(0, 3) = 12
            beast(1, 4) = 0
            beast(1, 5) = 0
            undo() = -1
            hills 'folk 0 0;folk 0 0;beast 0 1 0 2;' = 1
            law '1' = 1
            work 'day;day;' = 2
            told(8) = 1
            book '1 1;' = 1
            law '2' = 1
            undo() = 0
            told(8) = 0
            beast(0, 3) = 2
            beast(0, 6) = 2 // the law is not undone
            told(9) = 1
            work 'kill 0;kill 0;' = 1
            told(10) = 1
            undo() = 0
            told(10) = 0
            """);
        promise(8, """
            hills 'folk 9 0;folk 0 0;beast 0 1 0 9;beast 1 0 0 1;beast 1 0 0 9;' = 3
            work 'day;day;' = 2
            beast(0, 5) = 2
            told(8) = 1
            beast(2, 3) = 7
            work 'drive 0 1;again 7[day;];' = 8
            beast(0, 5) = 9
            told(8) = 2
            undo() = 1
            beast(0, 4) = 0
            beast(0, 5) = 2
            beast(2, 5) = 2
            beast(2, 3) = 7
            told(8) = 1
            told(3) = 2
            folk(0, 0) = 7
            """);
        promise(39, """
            HILLS
            image() = 1
            work 'kill 0;' = 1
            image() = 2
            work 'day;' = 1
            image() = 3
            image() = -1
            count(0) = 3
            work 'ask 1;ask 1;' = 1
            told(10) = 1
            restore() = 2
            told(10) = 0
            told(3) = 1
            count(2) = 2
            undo() = 1
            told(3) = 0
            told(4) = 14
            undo() = 0
            told(4) = 15
            restore() = 1
            told(4) = 14
            told(11) = 1
            count(2) = 1
            image() = 2
            undo() = 0
            told(11) = 0
            restore() = 1
            told(11) = 1
            undo() = 0
            restore() = 0
            told(4) = 15
            count(2) = 0
            restore() = -1
            """);
        // An image keeps what its works can be undone to, whatever was undone and done since.
        promise(39, """
            HILLS
            work 'day;' = 1
            work 'ask 0;' = 1
            image() = 1
            undo() = 1
            undo() = 0
            work 'kill 3;' = 1
            work 'kill 2;' = 1
            restore() = 0
            count(2) = 2
            told(4) = 14
            undo() = 1
            told(4) = 15
            told(11) = 0
            told(3) = 1
            undo() = 0
            told(3) = 0
            """);
        promise(40, """
            restore() = -1
            hills 'folk 9 1;folk 0 0;beast 0 1 0 9;' = 1
            image() = 1
            law '3' = 1
            book '1 1;' = 1
            work 'drive 0 1;day;day;day;kill 0;' = 4
            told(8) = 1
            restore() = 0
            told(3) = 0
            told(5) = 9
            told(8) = 0
            beast(0, 3) = 9
            beast(0, 4) = 0
            beast(0, 6) = 3 // the law stays, and the book
            told(9) = 1
            work 'kill 0;kill 0;' = 1
            told(10) = 1
            restore() = -1 // nothing came back, so nothing changed
            told(10) = 1
            told(11) = 1
            """);
    }

    private void whatStands() {
        promise(9, """
            HILLS
            told(-1) = IAE
            told(12) = IAE
            told(0) = 3
            told(1) = 4
            told(2) = 3
            told(3) = 0
            told(4) = 15
            told(5) = 45
            told(6) = 54
            told(7) = 8
            told(8) = 0
            told(9) = 0
            told(10) = 0
            told(11) = 0
            book '1 1;2 2;' = 2
            told(9) = 2
            work 'kill 0;do 0;kill 0;kill 3;ask 0;' = 4
            told(11) = 3
            told(10) = 1
            told(4) = 6
            told(6) = 35
            told(7) = 5
            told(1) = 4
            """);
        promise(10, """
            HILLS
            folk(3, 0) = NSEE
            folk(-1, 0) = NSEE
            folk(3, 9) = NSEE // ahead of the other
            folk(0, 6) = IAE
            folk(0, -1) = IAE
            folk(2, 0) = 5
            folk(2, 1) = 9
            folk(0, 2) = 3
            folk(0, 3) = 3
            folk(0, 4) = 12
            folk(0, 5) = 3
            work 'drive 2 0;ask 1;drive 3 1;' = 3
            folk(0, 2) = 5
            folk(1, 2) = 8
            folk(2, 2) = 0
            folk(0, 3) = 1
            folk(2, 3) = 8
            folk(2, 4) = 0
            folk(0, 5) = 6
            folk(1, 5) = 1
            folk(2, 5) = 0
            """);
        promise(11, """
            HILLS
            beast(4, 0) = NSEE
            beast(-1, 7) = NSEE
            beast(0, 7) = IAE
            beast(0, -1) = IAE
            beast(3, 0) = 2
            beast(3, 1) = 0
            beast(3, 2) = 1
            beast(3, 3) = 7
            beast(3, 4) = 2
            beast(3, 5) = 0
            beast(3, 6) = 1
            work 'drive 3 1;day;day;' = 3
            beast(3, 4) = 1
            beast(3, 5) = 2
            work 'ask 3;' = 1
            beast(3, 0) = 2
            beast(3, 1) = 0
            beast(3, 2) = 1
            beast(3, 3) = 0
            beast(3, 4) = -1
            beast(3, 5) = 0
            beast(3, 6) = 0
            """);
        promise(12, """
            HILLS
            fair(3, 0) = NSEE
            fair(-1, 0) = NSEE
            fair(3, 3) = NSEE
            fair(0, 3) = IAE
            fair(0, -1) = IAE
            fair(0, 0) = 0
            fair(0, 1) = 1
            fair(0, 2) = 3
            fair(1, 0) = 1
            fair(1, 1) = 2
            fair(1, 2) = 2
            """);
        promise(13, """
            HILLS
            cool(3, 0) = NSEE
            cool(0, 3) = NSEE
            cool(-1, 0) = NSEE
            work 'kill 2;' = 1
            cool(0, 1) = 1
            cool(1, 0) = 1
            cool(0, 0) = 0
            cool(1, 1) = 0
            cool(1, 2) = 0
            work 'kill 0;kill 1;' = 2
            cool(0, 1) = 2
            cool(0, 2) = 1
            """);
        promise(14, """
            law 'weight' = 1
            would(19, 5, 999, 99, 12, 9, 400, 12) = 19
            would(30, 0, 0, 0, 0, 0, 0, 0) = 20
            would(0, 0, 0, 0, 0, 0, 0, 0) = IAE
            would(31, 0, 0, 0, 0, 0, 0, 0) = IAE
            law 'kind' = 1
            would(1, 5, 0, 0, 0, 0, 0, 0) = 5
            would(1, -1, 0, 0, 0, 0, 0, 0) = IAE
            would(1, 6, 0, 0, 0, 0, 0, 0) = IAE
            law 'age / 100' = 1
            would(1, 0, 999, 0, 0, 0, 0, 0) = 9
            would(1, 0, -1, 0, 0, 0, 0, 0) = IAE
            would(1, 0, 1000, 0, 0, 0, 0, 0) = IAE
            law 'grass / 10' = 1
            would(1, 0, 0, 99, 0, 0, 0, 0) = 9
            would(1, 0, 0, -1, 0, 0, 0, 0) = IAE
            would(1, 0, 0, 100, 0, 0, 0, 0) = IAE
            law 'others' = 1
            would(1, 0, 0, 0, 12, 0, 0, 0) = 12
            would(1, 0, 0, 0, -1, 0, 0, 0) = IAE
            would(1, 0, 0, 0, 13, 0, 0, 0) = IAE
            law 'cool' = 1
            would(1, 0, 0, 0, 0, 9, 0, 0) = 9
            would(1, 0, 0, 0, 0, -1, 0, 0) = IAE
            would(1, 0, 0, 0, 0, 10, 0, 0) = IAE
            law 'day / 40' = 1
            would(1, 0, 0, 0, 0, 0, 400, 0) = 10
            would(1, 0, 0, 0, 0, 0, -1, 0) = IAE
            would(1, 0, 0, 0, 0, 0, 401, 0) = IAE
            law 'beast' = 1
            would(1, 0, 0, 0, 0, 0, 0, 12) = 12
            would(1, 0, 0, 0, 0, 0, 0, -1) = IAE
            would(1, 0, 0, 0, 0, 0, 0, 13) = IAE
            status(1) = 16
            hills '' = 0
            would(29, 0, 0, 0, 0, 0, 0, 0) = 3
            """);
    }

    private void daysAhead() {
        promise(15, """
            HILLS
            ahead(-1, 0) = IAE
            ahead(100, 0) = IAE
            ahead(0, 3) = IAE
            ahead(0, -1) = IAE
            ahead(0, 0) = 45
            ahead(0, 1) = 15
            ahead(0, 2) = 54
            ahead(1, 0) = 48 // 10 - 3 + 2, 30 - 4, 5 - 1 + 9
            told(5) = 45
            told(3) = 0
            beast(0, 5) = 0
            hills 'folk 3 0;folk 0 1;beast 0 1 0 2;' = 1
            law 'day / 400' = 1
            work 'again 60[day;];again 60[day;];again 60[day;];' = 180
            work 'again 60[day;];again 60[day;];again 60[day;];' = 180
            work 'again 40[day;];' = 40
            ahead(1, 0) = 101
            ahead(3, 0) = 99 // days go by beyond 400, too
            ahead(4, 2) = 1
            ahead(5, 1) = 0
            ahead(99, 0) = 99
            told(3) = 400
            told(8) = 0
            """);
        promise(16, """
            HILLS
            bare(3) = NSEE
            bare(-1) = NSEE
            bare(0) = -1
            bare(1) = 8
            told(5) = 45
            hills 'folk 0 5;folk 99 0;folk 98 0;folk 97 1;beast 1 0 0 30;beast 2 0 0 30;' = 2
            law '1' = 1
            bare(0) = 0
            bare(1) = 99
            bare(2) = 98
            bare(3) = -1
            work 'hay 2 1;drive 0 2;' = 2
            bare(1) = -1
            bare(2) = 50
            hills 'folk 1 1;folk 0 0;beast 0 1 0 9;' = 1 // it grows again ahead of the day's end
            bare(0) = -1
            hills 'folk 99 0;folk 0 0;beast 0 1 0 9;' = 1
            law 'day / 399' = 1
            work 'again 60[day;];again 60[day;];again 60[day;];' = 180
            work 'again 60[day;];again 60[day;];again 60[day;];' = 180
            work 'again 40[day;];' = 40
            folk(0, 0) = 98
            bare(0) = 98
            """);
    }

    private void sets() {
        promise(17, """
            cancel() = 0
            HILLS
            cancel() = 15
            work 'ask 0;' = 1
            cancel() = 10 // 0 for 2, 2 for 0
            work 'ask 1;' = 1
            cancel() = 0
            hills 'folk 0 0;folk 0 0;folk 0 0;beast 0 1 0 1;beast 0 1 0 1;beast 1 2 0 1;beast 2 0 0 1;beast 2 0 0 1;' = 5
            cancel() = 13 // one round of three, the least bits of four
            work 'drive 0 2;ask 3;' = 2
            cancel() = 21
            hills 'folk 0 0;folk 0 0;beast 0 1 0 1;beast 0 1 0 1;beast 0 1 0 1;beast 1 0 0 1;beast 1 0 0 1;' = 5
            cancel() = 27
            """);
        StringBuilder all = new StringBuilder("hills 'folk 0 0;folk 0 0;folk 0 0;folk 0 0;folk 0 0;folk 0 0;");
        for (int i = 0; i < 12; i++) {
            all.append("beast ").append(i % 6).append(' ').append((i + 1) % 6).append(" 0 1;");
        }
        promise(17, all + "' = 12\ncancel() = 4095\nwork 'ask 5;' = 1\ncancel() = 2079 // one of the rounds, with 11\n"
            + "work 'ask 11;' = 1\ncancel() = 0\n");
        promise(18, """
            HILLS
            herd(3, 0) = NSEE
            herd(-1, 0) = NSEE
            herd(3, 2) = NSEE
            herd(0, 2) = IAE
            herd(0, -1) = IAE
            herd(0, 0) = 54
            herd(0, 1) = 15
            herd(2, 0) = 37
            herd(2, 1) = 12
            hills 'folk 2 0;folk 0 0;folk 1 0;beast 0 1 0 9;beast 1 0 0 4;beast 1 0 0 5;beast 1 0 0 9;' = 4
            herd(0, 0) = 18
            herd(0, 1) = 9
            herd(1, 0) = 0
            herd(1, 1) = 0
            herd(2, 0) = 9
            herd(2, 1) = 1 // of alike ones the least bits
            law 'weight / 3 - 1' = 1
            herd(0, 0) = 18 // 9 and 4 and 5 eat 2; 9 and 9 would eat 4
            herd(0, 1) = 7
            herd(1, 1) = 6
            """);
        promise(18, """
            hills 'folk 5 0;folk 0 0;beast 0 1 0 4;beast 0 1 0 5;beast 0 1 0 9;' = 3
            law 'weight - 4 + kind' = 1
            herd(0, 0) = 13 // 9 and 4 eat 5, and 5 would eat 1 more
            herd(0, 1) = 5
            """);
        // Alike in weight: the fewest, though they have greater bits.
        promise(18, """
            hills 'folk 2 0;folk 9 0;beast 0 1 0 4;beast 0 1 0 5;beast 0 1 0 9;' = 3
            law '1 + weight / 9' = 1
            herd(0, 0) = 9 // 4 and 5 eat 2, 9 eats 2
            herd(0, 1) = 4
            work 'ask 2;drive 1 1;' = 2
            herd(0, 1) = 3 // wherever they are
            work 'ask 1;' = 1
            herd(0, 1) = 1
            herd(1, 1) = 1
            """);
        promise(19, """
            HILLS
            paid(4, 0) = NSEE
            paid(-1, 0) = NSEE
            paid(4, 2) = NSEE
            paid(0, 2) = IAE
            paid(0, -1) = IAE
            paid(0, 0) = 1
            paid(0, 1) = 10
            paid(2, 0) = 0
            paid(2, 1) = -1
            hills 'folk 0 0;folk 0 0;beast 0 1 0 3;beast 0 1 0 1;beast 0 1 0 2;beast 0 1 0 3;beast 0 1 0 1;beast 0 1 0 1;' = 6
            paid(0, 0) = 5 // 2 and each of the three 1, all three 1, the other 3
            paid(0, 1) = 8
            paid(3, 1) = 1
            work 'ask 3;' = 1
            paid(0, 0) = 4
            paid(0, 1) = 6
            paid(3, 0) = 0
            paid(3, 1) = -1
            paid(1, 0) = 2
            paid(1, 1) = 16
            """);
    }

    private void unseen() {
        promise(20, """
            HILLS
            unseen(3, 0) = NSEE
            unseen(-1, 0) = NSEE
            unseen(3, 2) = NSEE
            unseen(0, 2) = IAE
            unseen(0, -1) = IAE
            unseen(1, 0) = 180
            unseen(1, 1) = 1
            book '1 24;' = 1
            unseen(1, 0) = 60
            unseen(1, 1) = 10
            book '1 22;' = 1
            unseen(1, 0) = 6 // 30 of each kind eats 4
            unseen(1, 1) = 30
            book '1 23;2 17;' = 2
            unseen(1, 0) = 0
            unseen(1, 1) = -1
            law '2 + kind % 3' = 1
            book '1 24;' = 1
            unseen(1, 0) = 60 // kinds 0 and 3 eat 2; the one that is there, of kind 2, eats 4
            unseen(1, 1) = 1
            book '1 23;' = 1
            unseen(1, 1) = 101
            """);
        // It is behind all others, of number 12, of age 0, cool 0; it counts as one of the others.
        promise(20, """
            hills 'folk 30 0;folk 0 0;beast 0 1 0 30;' = 1
            law 'beast' = 1
            book '1 18;' = 1
            unseen(0, 0) = 180
            law 'others * 5' = 1
            book '1 20;2 10;' = 2
            unseen(0, 0) = 180
            law 'age' = 1
            work 'day;' = 1
            book '1 29;2 26;' = 2 // 1 and 0, then 2 and 1
            unseen(0, 0) = 180
            told(5) = 30
            told(8) = 0
            told(4) = 1
            hills 'folk 30 0;folk 0 0;beast 0 1 0 30;' = 1
            law '1 + cool' = 1
            work 'kill 0;do 0;day;' = 3
            book '1 25;2 22;' = 2 // 2 by the one that is there, 1 by the one unseen
            unseen(0, 0) = 180
            law 'weight - 1' = 1
            work 'ask 0;' = 1
            book '1 20;2 12;' = 2 // 28 less 8, less 8
            unseen(0, 0) = 6
            unseen(0, 1) = 9
            """);
        // It starves: what it can't eat makes it lighter, and then it is gone.
        promise(20, """
            hills 'folk 3 2;folk 0 0;' = 0
            law '5' = 1
            book '3 2;' = 1 // on day 3 it is still there: 2 lighter, then 3 lighter
            unseen(0, 0) = 150
            unseen(0, 1) = 6
            book '3 4;' = 1 // it was gone on day 2
            unseen(0, 0) = 18
            unseen(0, 1) = 3
            book '3 6;' = 1 // on day 1
            unseen(0, 0) = 12
            """);
        promise(20, """
            hills 'folk 90 0;folk 0 0;' = 0
            law 'least[1, age / 11] * kind' = 1
            book '12 90;' = 1
            unseen(0, 0) = 30
            book '11 90;12 86;' = 2
            unseen(0, 0) = 30
            unseen(0, 1) = 401
            work 'again 9[day;];' = 9 // a line counts from now on, not from day 0
            unseen(0, 0) = 30
            """);
        promise(21, """
            HILLS
            look(3, 0) = NSEE
            look(-1, 0) = NSEE
            look(3, 2) = NSEE
            look(0, 2) = IAE
            look(0, -1) = IAE
            look(1, 0) = 1
            look(1, 1) = 60
            book '1 20;' = 1
            look(1, 0) = 2
            look(1, 1) = 0
            law '0' = 1
            book '1 30;2 30;3 30;5 30;' = 4
            look(1, 0) = 4 // all of no use: the first in no line
            look(1, 1) = 180
            hills 'folk 90 0;folk 0 0;' = 0
            law 'least[1, age / 4] * kind' = 1
            look(0, 0) = 5 // on day 5 all kinds are told apart
            look(0, 1) = 30
            book '5 87;' = 1
            look(0, 0) = 1
            look(0, 1) = 30
            told(3) = 0
            hills 'folk 99 0;folk 0 0;' = 0
            law '0' = 1
            look(0, 0) = 1
            look(0, 1) = 180
            law 'least[1, age / 11] * kind' = 1
            look(0, 0) = 12
            look(0, 1) = 30
            look(1, 0) = 1
            look(1, 1) = 180
            """);
    }

    private void waysAndPrices() {
        promise(22, """
            HILLS
            way(3, 0) = NSEE
            way(0, 3) = NSEE
            way(-1, 0) = NSEE
            way(0, 0) = 0
            way(1, 2) = 2
            way(2, 1) = 2
            way(0, 2) = 1
            work 'ask 3;' = 1
            way(0, 2) = -1
            way(2, 0) = 1
            way(1, 1) = 0
            hills 'folk 0 0;folk 0 0;folk 0 0;folk 0 0;folk 0 0;folk 0 0;beast 1 0 0 1;beast 2 1 0 1;beast 3 2 0 1;beast 4 3 0 1;beast 5 4 0 1;' = 5
            way(0, 5) = 5
            way(5, 0) = -1
            round(0) = 63
            work 'drive 4 0;' = 1
            way(0, 5) = 5 // it is who did it that counts, not where it grazes
            """);
        promise(36, """
            HILLS
            round(3) = NSEE
            round(-1) = NSEE
            round(0) = 7
            round(1) = 7
            work 'ask 3;ask 0;' = 2
            round(0) = 3
            round(1) = 2
            round(2) = 7
            work 'ask 2;ask 1;' = 2
            round(0) = 1
            """);
        promise(23, """
            HILLS
            price(-1, 0) = IAE
            price(6, 0) = IAE
            price(0, -1) = IAE
            price(0, 6) = IAE
            price(0, 1) = 3
            price(0, 2) = 6
            price(1, 0) = -1
            price(4, 4) = 1
            hills 'fair 4 5 9;fair 3 4 9;fair 2 3 9;fair 1 2 1;fair 0 1 1;fair 0 1 2;fair 5 0 1;' = 0
            price(0, 5) = 729
            price(5, 4) = 81
            price(4, 0) = 9
            price(0, 0) = 1
            hills 'fair 0 1 9;fair 1 2 4;fair 2 3 4;fair 3 4 7;fair 2 4 9;fair 4 5 3;' = 0
            price(0, 4) = 324
            price(0, 5) = 972
            hills 'fair 0 1 5;fair 1 2 5;fair 2 3 5;fair 3 4 8;fair 4 5 1;' = 0
            price(0, 5) = -1 // 1000
            price(0, 3) = 125
            hills 'fair 0 1 9;fair 1 2 3;fair 2 3 37;' = -8
            hills 'fair 3 4 9;fair 2 3 3;fair 1 2 9;fair 0 1 4;' = 0
            price(0, 4) = 972
            """);
    }

    private void reckonings() {
        promise(24, """
            owing(-1, 0, 0) = IAE
            owing(100, 0, 0) = IAE
            owing(0, -1, 0) = IAE
            owing(0, 100, 0) = IAE
            owing(0, 0, 3) = IAE
            owing(0, 0, -1) = IAE
            owing(99, 98, 0) = 2
            owing(99, 98, 1) = 0
            owing(99, 98, 2) = 2
            owing(98, 99, 0) = 1
            owing(98, 99, 1) = 11
            owing(98, 99, 2) = 0
            owing(5, 5, 0) = 2 // alike is not more
            owing(5, 5, 1) = 0
            owing(0, 0, 0) = 4
            owing(0, 0, 1) = 0
            owing(7, 0, 0) = 2
            owing(7, 0, 2) = 14
            owing(0, 1, 0) = 1
            """);
        promise(25, """
            home(-1, 0, 0, 0) = IAE
            home(13, 0, 0, 0) = IAE
            home(0, -1, 0, 0) = IAE
            home(0, 13, 0, 0) = IAE
            home(0, 0, -1, 0) = IAE
            home(0, 0, 17, 0) = IAE
            home(0, 0, 0, -1) = IAE
            home(0, 0, 0, 2) = IAE
            home(0, 0, 0, 0) = 1
            home(0, 0, 0, 1) = 1
            home(2, 1, 0, 0) = 0 // none comes home
            home(2, 1, 0, 1) = 1
            home(2, 2, 0, 0) = 1
            home(3, 0, 8, 0) = 1
            home(3, 0, 8, 1) = 8
            home(3, 1, 12, 0) = 27 // 27/64 and 3 * 9/64: 54 of 64
            home(3, 1, 12, 1) = 32
            home(1, 0, 15, 0) = 15
            home(1, 0, 15, 1) = 16
            home(2, 1, 15, 0) = 255
            home(2, 1, 15, 1) = 256
            home(12, 11, 15, 0) = 281474976710655
            home(12, 11, 15, 1) = 281474976710656
            home(12, 12, 7, 0) = 1
            home(12, 0, 16, 0) = 1
            """);
        promise(26, """
            hills 'folk 90 0;folk 0 0;folk 99 0;folk 50 0;' = 0
            share(4, 1, 1) = NSEE
            share(-1, 1, 1) = NSEE
            share(4, 16, 1000) = NSEE
            share(0, 16, 1) = IAE
            share(0, 17, 1) = IAE
            share(0, -1, 1) = IAE
            share(0, 1, -1) = IAE
            share(0, 1, 1000) = IAE
            share(0, 15, 999) = 9
            share(1, 15, 999) = 99
            share(2, 15, 999) = 0
            share(3, 15, 999) = 49
            share(0, 0, 999) = 0
            share(0, 14, 999) = 0
            share(0, 15, 30) = 9
            share(1, 15, 30) = 10 // 9 and 10 and 10; 11 would be 31
            share(3, 15, 30) = 10
            share(3, 15, 31) = 11
            share(0, 15, 26) = 8
            share(1, 15, 26) = 8
            share(0, 15, 27) = 9
            share(0, 1, 8) = 8
            share(0, 15, 2) = 0
            share(0, 15, 0) = 0
            share(0, 15, 3) = 1
            share(1, 2, 98) = 98
            share(1, 10, 148) = 99
            share(1, 10, 147) = 98
            share(3, 10, 147) = 49
            folk(1, 0) = 0
            """);
    }

    private void firsts() {
        promise(27, """
            heaviest(-1) = IAE
            heaviest(2) = IAE
            heaviest(0) = -1
            heaviest(1) = -1
            HILLS
            heaviest(0) = 2
            heaviest(1) = 30
            work 'ask 2;' = 1
            heaviest(0) = 0
            heaviest(1) = 12
            hills 'folk 0 0;folk 9 0;beast 0 1 0 9;beast 1 0 0 9;beast 1 0 0 9;' = 3
            heaviest(0) = 0
            work 'day;' = 1
            heaviest(0) = 1 // the first one starves, and weighs less by now
            heaviest(1) = 9
            """);
        promise(28, """
            oldest(-1) = IAE
            oldest(2) = IAE
            oldest(0) = -1
            oldest(1) = -1
            HILLS
            oldest(0) = 0
            oldest(1) = 0
            work 'ask 0;day;do 0;ask 1;do 1;day;' = 6
            oldest(0) = 2
            oldest(1) = 2
            work 'ask 2;ask 3;' = 2
            oldest(0) = 0
            oldest(1) = 1
            work 'ask 0;ask 1;' = 2
            oldest(0) = -1
            oldest(1) = -1
            """);
        promise(34, """
            lightest(-1) = IAE
            lightest(2) = IAE
            lightest(0) = -1
            lightest(1) = -1
            HILLS
            lightest(0) = 1
            lightest(1) = 5
            work 'ask 1;' = 1
            lightest(0) = 3
            lightest(1) = 7
            hills 'folk 9 0;folk 0 0;beast 0 1 0 9;beast 1 0 0 9;beast 1 0 0 9;' = 3
            lightest(0) = 0
            work 'day;' = 1
            lightest(0) = 1
            lightest(1) = 8
            """);
        promise(35, """
            coolest(-1) = IAE
            coolest(2) = IAE
            coolest(0) = -1
            coolest(1) = -1
            hills 'folk 0 0;folk 0 0;folk 0 0;beast 2 1 0 1;beast 2 0 0 1;beast 0 1 0 1;' = 3
            coolest(0) = -1
            coolest(1) = -1
            work 'kill 0;' = 1
            coolest(0) = 12
            coolest(1) = 1
            work 'kill 1;' = 1
            coolest(0) = 2 // 0 and 2: as cool, and the first
            coolest(1) = 1
            work 'kill 2;do 0;kill 0;' = 3
            coolest(0) = 12
            coolest(1) = 2
            undo() = 2
            work 'kill 2;' = 1
            coolest(0) = 1
            """);
    }

    private void bits() {
        promise(29, """
            overrun() = 0
            hills 'folk 3 0;folk 2 0;folk 0 0;beast 0 1 0 10;beast 1 0 0 10;beast 0 1 0 9;' = 3
            overrun() = 0 // as much as there is is not more
            work 'drive 1 0;' = 1
            overrun() = 1
            work 'ask 1;drive 2 2;' = 2
            overrun() = 4
            law 'weight' = 1
            overrun() = 5
            work 'drive 0 2;' = 1
            overrun() = 4
            """);
        promise(30, """
            good(-1) = IAE
            good(3) = IAE
            good(0) = 0
            good(1) = 0
            good(2) = 0
            HILLS
            good(0) = 0
            good(1) = 7
            good(2) = 0
            work 'ask 0;' = 1
            good(0) = 2
            good(1) = 4
            good(2) = 1
            work 'drive 3 1;' = 1
            good(1) = 4
            """);
        promise(31, """
            kind(-1) = IAE
            kind(6) = IAE
            kind(0) = 0
            HILLS
            kind(0) = 1
            kind(1) = 10
            kind(2) = 4
            kind(5) = 0
            work 'ask 1;' = 1
            kind(1) = 8
            """);
        promise(32, """
            driven() = 0
            HILLS
            driven() = 0
            work 'drive 0 2;drive 3 0;drive 2 0;drive 2 1;' = 4
            driven() = 9
            work 'ask 0;' = 1
            driven() = 8
            work 'do 0;' = 1
            driven() = 8
            hills 'folk 0 0;folk 0 0;beast 0 1 0 1;' = 1
            work 'drive 0 1;' = 1
            driven() = 1
            folk(1, 2) = 1
            heaviest(1) = 1
            """);
        promise(33, """
            HILLS
            weighs(3, 0) = NSEE
            weighs(-1, 0) = NSEE
            weighs(3, 2) = NSEE
            weighs(0, 2) = IAE
            weighs(0, -1) = IAE
            weighs(0, 0) = 17
            weighs(0, 1) = 37
            weighs(2, 0) = 7
            weighs(2, 1) = 5
            work 'ask 0;drive 3 0;' = 2
            weighs(0, 0) = 5
            weighs(1, 1) = 0
            weighs(2, 0) = 7
            """);
    }

    private void decades() {
        // Seed 0: 0, 21468, 9988, 22117, 3498, 16927, 16045 (of the bits 16 to 30) are drawn.
        promise(37, """
            decade(0, 0, 0, 0) = IAE
            decade(0, 97, 0, 0) = IAE
            decade(0, 1, -1, 0) = IAE
            decade(0, 1, 17, 0) = IAE
            decade(0, 1, 0, 4) = IAE
            decade(0, 1, 0, -1) = IAE
            hills 'folk 7 2;folk 9 0;' = 0
            decade(123, 1, 16, 0) = 18
            decade(123, 96, 16, 0) = 108
            decade(0, 1, 16, 1) = 0
            hills 'folk 20 1;folk 30 2;folk 40 3;beast 0 1 0 10;beast 1 2 0 20;beast 2 0 0 30;' = 3
            decade(0, 1, 0, 1) = 6 // 0: asked back
            decade(0, 1, 0, 0) = 89 // 6 more, 3 and 4 less
            decade(0, 1, 0, 3) = 50
            decade(0, 2, 0, 1) = 4 // 9988 of 3 is 1: asked back; 22117 of 16 is not below 0
            told(4) = 7
            told(3) = 0
            told(5) = 90
            """);
        // Q 13: 21468 of 16 is 12, so 9988 of 3, 1, is driven to 22117 of 3, 1: it is there.
        promise(37, """
            hills 'folk 20 1;folk 30 2;folk 40 3;beast 0 1 0 10;beast 1 2 0 20;beast 2 0 0 30;' = 3
            law 'others * 5' = 1
            decade(0, 1, 13, 0) = 96
            decade(0, 1, 12, 0) = 96
            decade(0, 2, 13, 1) = 7 // 3498 of 3 is 0: it is done again; 16927 of 16 is 15
            decade(0, 2, 12, 1) = 4
            decade(1, 1, 14, 0) = 96 // 16838 of 3 is 2: asked back; 5758 of 16 is 14
            decade(1, 1, 15, 0) = 86 // 10113 of 3, 0, is driven to 17515 of 3, 1
            driven() = 0
            """);
        // It starves, in days that no one else lived; those that starved ahead of it are not counted.
        promise(37, """
            hills 'folk 0 0;folk 0 0;beast 0 1 0 1;beast 1 0 0 1;' = 2
            law 'beast' = 1
            work 'day;' = 1
            told(8) = 1
            decade(0, 1, 0, 2) = 0 // 0 is asked back
            decade(0, 2, 0, 2) = 0 // 9988 of 2: 0 is done again
            law '1' = 1
            decade(0, 2, 0, 2) = 1
            decade(0, 2, 0, 1) = 0
            told(8) = 1
            """);
        promise(38, """
            hills 'folk 20 1;folk 0 0;folk 40 3;beast 0 1 0 10;beast 1 2 0 20;beast 2 0 0 30;' = 3
            span(0, 0, 1, 0, 0, 0) = IAE
            span(0, 21, 1, 0, 0, 0) = IAE
            span(0, 1, 0, 0, 0, 0) = IAE
            span(0, 1, 97, 0, 0, 0) = IAE
            span(0, 1, 1, -1, 0, 0) = IAE
            span(0, 1, 1, 17, 0, 0) = IAE
            span(0, 1, 1, 0, 3, 0) = IAE
            span(0, 1, 1, 0, -1, 0) = IAE
            span(0, 1, 1, 0, 0, 3) = IAE
            span(0, 1, 1, 0, 1, -1) = IAE
            status(0) = 0
            span(0, 20, 1, 0, 2, 1) = 20
            span(0, 20, 1, 0, 2, 0) = 0
            decade(0, 1, 0, 0) = 60 // 0 is asked back: 4 more, 4 less
            span(0, 1, 1, 0, 0, 0) = 60
            span(0, 1, 1, 0, 1, 0) = 60
            decade(1, 1, 0, 0) = 62 // 16838 of 3 is 2: 4 more, 2 less
            span(0, 2, 1, 0, 0, 0) = 60
            span(0, 2, 1, 0, 1, 0) = 62
            span(1, 1, 1, 0, 0, 0) = 62
            span(-1, 3, 1, 0, 1, 0) = 62
            told(5) = 60
            hills 'folk 0 0;folk 0 0;beast 0 1 0 1;' = 1
            span(5, 9, 1, 0, 0, 0) = 0
            span(5, 9, 1, 0, 1, 0) = 0
            span(5, 9, 1, 0, 2, 0) = 9
            """);
    }

    private void counts() {
        promise(41, """
            status(0) = 0
            status(1) = 0
            status(2) = -1
            status(-1) = -1
            folk(0, 9) = NSEE
            way(0, 0) = NSEE
            share(0, 0, 0) = NSEE
            told(99) = IAE
            status(0) = 3
            status(1) = 1
            image() = 1
            span(0, 1, 1, 0, 0, 0) = IAE
            law(1) = IAE
            restore() = 0
            status(1) = 3
            hills 'folk 0 0;' = 0
            status(0) = 3
            work 'x' = -9
            work 'hay 0 1;' = 1
            undo() = 0
            undo() = -1
            status(1) = 3
            """);
        promise(42, """
            count(3) = -1
            count(-1) = -1
            feed(0, 0, 0, 0, 0) = 20
            feed(0, 0, 0, 0, 0) = 40
            count(1) = 40
            work(0) = 0
            count(1) = 0
            count(2) = 1
            count(0) = 0
            image() = 1
            image() = 2
            count(0) = 2
            work '' = 0
            count(2) = 2
            restore() = 1
            count(2) = 1
            count(0) = 1
            undo() = 0
            count(2) = 0
            """);
    }
}
