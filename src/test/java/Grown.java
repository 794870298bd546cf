/** An object on which something of everything is told and done, and all that can be seen of one. */
final class Grown {
    private Grown() {
    }

    static FavourBeasts make() {
        FavourBeasts x = new FavourBeasts();
        read(x, "hills", "folk 30 2;folk 9 0;beast 0 1 0 12;beast 1 0 5 7;beast 0 1 0 5;fair 0 1 3;", 3);
        read(x, "law", "1 + weight / 5 + others", 1);
        read(x, "book", "3 30;", 1);
        read(x, "work", "kill 2;day;", 2);
        x.image();
        read(x, "work", "drive 1 0;do 2;do 2;day;", 3);
        read(x, "book", "1 1;1", -8);
        x.feed(0x20202020, 0x20202020, 0x20202020, 0x20202020, 0x20202020);
        return x;
    }

    private static void read(FavourBeasts x, String call, String text, int due) {
        Calls.feedText(x, text);
        String got = Calls.answer(x, call, text.length());
        if (!got.equals(String.valueOf(due))) {
            throw new AssertionError(call + " '" + text + "' answered " + got);
        }
    }

    /** But for what was refused. */
    static String seen(FavourBeasts x) {
        StringBuilder all = new StringBuilder();
        for (int what = 0; what < 12; what++) {
            all.append(x.told(what)).append(' ');
        }
        for (int what = 0; what < 6; what++) {
            all.append(x.folk(0, what)).append(' ').append(x.folk(1, what)).append(' ');
        }
        for (int what = 0; what < 7; what++) {
            all.append(x.beast(0, what)).append(' ').append(x.beast(1, what)).append(' ').append(x.beast(2, what)).append(' ');
        }
        for (int what = 0; what < 3; what++) {
            all.append(x.count(what)).append(' ').append(x.fair(0, what)).append(' ');
        }
        return all.append(x.cool(0, 1)).append(' ').append(x.fault()).append(' ').append(x.unseen(0, 0)).append(' ')
            .append(x.look(0, 1)).append(' ').append(x.would(30, 0, 0, 0, 1, 0, 0, 0)).toString();
    }

    /** Whether both are alike, now and by what comes back when work is undone and images are restored. */
    static boolean alike(FavourBeasts one, FavourBeasts other) {
        boolean alike = seen(one).equals(seen(other));
        alike &= one.undo() == other.undo() && seen(one).equals(seen(other));
        alike &= one.restore() == other.restore() && seen(one).equals(seen(other));
        alike &= one.undo() == other.undo() && seen(one).equals(seen(other));
        return alike && one.hills(20) == other.hills(20);
    }
}
