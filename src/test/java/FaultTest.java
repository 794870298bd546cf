import java.util.ArrayList;
import java.util.List;

/** Faults of texts: which, and where, the first from the left. */
public final class FaultTest {
    private final List<Script> scripts = new ArrayList<>();

    public static void main(String[] args) {
        FaultTest test = new FaultTest();
        test.hills();
        test.laws();
        test.works();
        boolean passed = true;
        for (Script script : test.scripts) {
            passed &= script.passed();
        }
        System.out.println(passed ? "FaultTest: all faults are as due" : "FaultTest: faults are not as due");
        if (!passed) {
            System.exit(1);
        }
    }

    /** Rows of the text, the answer and the place of the fault, divided by bars. */
    private void read(String call, String before, String rows) {
        Script script = new Script(call);
        script.run(before);
        for (String line : rows.split("\n")) {
            if (!line.isBlank()) {
                String[] row = line.split("\\|");
                script.run(call + " '" + row[0] + "' = " + row[1].trim() + "\nfault() = " + row[2].trim());
            }
        }
        scripts.add(script);
    }

    private void hills() {
        read("hills", "", """
            folk 0 0| -9 | 8
            folk 0 0  | -9 | 10
            folk 0;| -9 | 6
            folk;| -9 | 4
            folk 0 0 0;| -9 | 9
            folk 0 0,| -9 | 8
            folk -1 0;| -9 | 5
            folk 99 9;|0|-1
            folk 100 0;| -8 | 5
            folk 99 10;| -8 | 8
            folk 0099 09;|0|-1
            folk 99999999999999999999 0;| -8 | 5
            folk 4294967297 0;| -8 | 5
            folk0 0;|0|-1
            folk 0 0;;| -9 | 9
            ;| -9 | 0
            Folk 0 0;| -9 | 0
            fol 0 0;| -9 | 0
            folks 0 0;| -9 | 0
            folkfolk 0 0;| -9 | 0
            folka 0 0;| -9 | 0
            folkz 0 0;| -9 | 0
            folk` 0 0;| -9 | 4
            folk{ 0 0;| -9 | 4
            folk / 0;| -9 | 5
            folk : 0;| -9 | 5
              folks 0 0;| -9 | 2
            fo lk 0 0;| -9 | 0
            7 folk 0 0;| -9 | 0
            folk 0 0;beast 0 1 0 1;| -8 | 17
            folk 0 0;beast 1 0 0 1;| -8 | 15
            folk 0 0;folk 0 0;beast 0 0 0 1;| -8 | 26
            folk 0 0;folk 0 0;beast 0 1 0 1;|1|-1
            folk 0 0;folk 0 0;beast 2 1 0 1;| -8 | 24
            folk 0 0;folk 0 0;beast 1 2 0 1;| -8 | 26
            folk 0 0;folk 0 0;beast 1 0 6 1;| -8 | 28
            folk 0 0;folk 0 0;beast 1 0 5 0;| -8 | 30
            folk 0 0;folk 0 0;beast 1 0 5 31;| -8 | 30
            folk 0 0;folk 0 0;beast 1 0 5 30;|1|-1
            folk 0 0;folk 0 0;beast 1 0 5;| -9 | 29
            beast 0 1 0 1;folk 0 0;folk 0 0;| -8 | 6
            beast ;| -9 | 6
            beasts 0 1 0 1;| -9 | 0
            fair 0 1 1;|0|-1
            fair 5 0 9;|0|-1
            fair 6 0 9;| -8 | 5
            fair 0 6 9;| -8 | 7
            fair 3 3 9;| -8 | 7
            fair 3 03 9;| -8 | 7
            fair 0 1 0;| -8 | 9
            fair 0 1 10;| -8 | 9
            fair 0 1;| -9 | 8
            fairs 0 1 1;| -9 | 0
            fair 0 1 1| -9 | 10
            """);
        String six = "folk 0 0;".repeat(6);
        String twelve = "folk 0 0;folk 0 0;" + "beast 0 1 0 1;".repeat(12);
        String ten = "fair 0 1 1;".repeat(10);
        read("hills", "", six + "|0|-1\n" + six + "folk|-7|54\n" + six + " folk 0 0;|-7|55\n" + six + "folk x|-7|54\n"
            + six + "folks|-9|54\n" + twelve + "|12|-1\n" + twelve + "beast 9 9 9 9;|-7|186\n" + twelve + "beasts|-9|186\n"
            + ten + "|0|-1\n" + ten + "fair|-7|110\n" + ten + "   fair 0 0 0;|-7|113\n" + twelve + ten + six.substring(18)
            + "|12|-1\n");
    }

    private void laws() {
        read("law", "", """
            1 2| -9 | 2
            1 +| -9 | 3
            1 + | -9 | 4
            + 1| -9 | 0
            -1| -9 | 0
            1 ++ 1| -9 | 3
            1 */ 1| -9 | 3
            2 * | -9 | 4
            999|1|-1
            1000| -8 | 0
            1 + 01000| -8 | 4
            0000999|1|-1
            5000000000| -8 | 0
            ()| -9 | 1
            (1| -9 | 2
            (1 | -9 | 3
            1)| -9 | 1
            (1]| -9 | 2
            weights| -9 | 0
            weigh| -9 | 0
            weight weight| -9 | 7
            weight5| -9 | 6
            5weight| -9 | 1
            Weight| -9 | 0
            leasts[1,2]| -9 | 0
            least(1,2)| -9 | 5
            least [1]| -9 | 8
            least [1,]| -9 | 9
            least [,1]| -9 | 7
            least [1,2| -9 | 10
            least [1,2)| -9 | 10
            least [1,2,3]| -9 | 10
            least| -9 | 5
            most[1,2]|1|-1
            most[1,2]]| -9 | 9
            most [1;2]| -9 | 7
            1,2| -9 | 1
            day+beast+others+cool+age+grass+kind+weight|1|-1
            grass % 0 / 0|1|-1
            ((((((1))))))|1|-1
            (((((((1)))))))| -7 | 6
            (((((( (| -7 | 7
            ((((((least| -7 | 6
            ((((((most[1,2]))))))| -7 | 6
            ((((((lease| -9 | 6
            ((((((1))))))+((((((1))))))|1|-1
            ((((((1))))))+(((((((1)))))))| -7 | 20
            least[least[least[least[least[least[1,2],2],2],2],2],2]|1|-1
            least[most[(least[most[(1)+(2),2],2]),2],2]|1|-1
            least[most[(least[most[(1)+((2)),2],2]),2],2]| -7 | 28
            least[1,least[1,least[1,least[1,least[1,least[1,most[1,1]]]]]]]| -7 | 48
            """);
        String nine = "1+".repeat(73) + "1";
        read("law", "", nine + "|1|-1\n" + nine + "+11|1|-1\n" + nine + "+(|-9|149\n");
    }

    private void works() {
        String before = "hills 'folk 0 0;folk 0 0;beast 0 1 0 9;beast 1 0 0 9;' = 2";
        read("work", before, """
            ask 2;| -8 | 4
            ask;| -9 | 3
            ask 1| -9 | 5
            ask 1 1;| -9 | 6
            asks 1;| -9 | 0
            kill 2;| -8 | 5
            do 2;| -8 | 3
            drive 2 0;| -8 | 6
            drive 0 2;| -8 | 8
            drive 2 2;| -8 | 6
            drive 0;| -9 | 7
            hay 2 1;| -8 | 4
            hay 0 0;| -8 | 6
            hay 0 61;| -8 | 6
            hay 0;| -9 | 5
            day 1;| -9 | 4
            day| -9 | 3
            day | -9 | 4
            days;| -9 | 0
            dayday;| -9 | 0
            ;| -9 | 0
            day;;| -9 | 4
            day; x| -9 | 5
            ];| -9 | 0
            day;];| -9 | 4
            again 61[];| -8 | 6
            again 1 day;| -9 | 8
            again [];| -9 | 6
            again 1[day];| -9 | 11
            again 1[day;;];| -9 | 12
            again 1[day;| -9 | 12
            again 1[day;];]| -9 | 14
            again 1[day;]| -9 | 13
            again 1[| -9 | 8
            again 1[ask 2;];| -8 | 12
            again 1[again 1[again 1[again 1[again 1[again 1[again| -7 | 48
            again 1[again 1[again 1[again 1[again 1[again 1[ again 99[| -7 | 49
            again 1[again 1[again 1[again 1[again 1[again 1[agains| -9 | 48
            """);
        read("work", before, """
            ask0;kill1;do0;do1;drive0 1;hay0 60;day;again1[];|7|-1
            again 60[];|0|-1
            again 0[again 1[again 1[again 1[again 1[again 1[day;];];];];];];|0|-1
            again 1[again 1[again 1[again 1[again 1[];];];];again 1[again 1[];];];|0|-1
              day ;  |1|-1
            """);
        read("work", "", """
            ask 0;| -8 | 4
            hay 0 1;| -8 | 4
            drive 0 0;| -8 | 6
            again 2[day;];|2|-1
            """);
    }
}
