/** Promises 27 to 30: claims, what they tell, the best one, the mark to add. */
public final class ClaimsTest {
    private ClaimsTest() {
    }

    public static void main(String[] args) {
        claims();
        best();
        added();
        allHave();
        Check.end();
    }

    private static void claims() {
        FoundThings x = new FoundThings();
        x.person(0, 0b111);
        x.person(0, 0b011);
        x.find(0, 0, 1, 0b110, 0);
        Check.fails("find 1", Check.INDEX, () -> x.claim(1, 9, 0));
        Check.fails("person 2", Check.ELEMENT, () -> x.claim(0, 2, 0));
        Check.fails("no marks", Check.ARGUMENT, () -> x.claim(0, 0, 0));
        Check.fails("marks 4096", Check.ARGUMENT, () -> x.claim(0, 0, 4096));
        Check.fails("claim 0", Check.INDEX, () -> x.claimed(0, 9));
        int[][] due = {
            {0, 0, 0b110, 1, 1, 1}, {0, 1, 0b110, 0, 1, 0}, {0, 0, 0b010, 1, 2, 0},
            {0, 0, 0b001, 0, 2, 0}, {0, 1, 0b010, 1, 2, 0}, {0, 0, 0b100000, 0, 0, 0}, {0, 1, 4095, 0, 0, 0}};
        for (int i = 0; i < due.length; i++) {
            Check.due("claim", i, x.claim(0, due[i][1], due[i][2]));
            for (int what = 0; what < 6; what++) {
                Check.due("claimed " + i + " " + what, due[i][what], x.claimed(i, what));
            }
        }
        x.person(0, 0b110);
        Check.due("no longer proven", 0, x.claimed(0, 5));
        Check.due("two have", 2, x.claimed(0, 4));
        Check.fails("what 6", Check.ARGUMENT, () -> x.claimed(0, 6));
        Check.fails("what -1", Check.ARGUMENT, () -> x.claimed(0, -1));
        Check.fails("claim -1", Check.INDEX, () -> x.claimed(-1, 0));
        for (int i = due.length; i < 24; i++) {
            Check.due("claim", i, x.claim(0, 0, 1));
        }
        Check.due("a 25th", -1, x.claim(0, 0, 1));
        Check.fails("a 25th without marks", Check.ARGUMENT, () -> x.claim(0, 0, 0));
        Check.due("claims", 24, x.count(6));
        Check.fails("claim 24", Check.INDEX, () -> x.claimed(24, 0));
    }

    private static void best() {
        FoundThings x = new FoundThings();
        x.person(0, 0b111);
        x.person(0, 0b111);
        x.person(0, 0b011);
        x.find(0, 0, 1, 0b111, 0);
        x.find(0, 0, 1, 0b111, 0);
        Check.fails("find 2", Check.INDEX, () -> x.best(2));
        Check.due("none", -1, x.best(0));
        x.claim(0, 2, 0b100);
        Check.due("none fits", -1, x.best(0));
        x.claim(0, 2, 0b001);
        Check.due("one", 2, x.best(0));
        x.claim(0, 0, 0b010);
        Check.due("disputed", -2, x.best(0));
        x.claim(0, 1, 0b100);
        Check.due("fewer have", 1, x.best(0));
        x.claim(0, 1, 0b111);
        Check.due("the same person twice", 1, x.best(0));
        x.claim(0, 0, 0b110);
        Check.due("disputed again", -2, x.best(0));
        x.claim(0, 0, 0b110);
        Check.due("still disputed", -2, x.best(0));
        Check.due("another find", -1, x.best(1));
    }

    private static void allHave() {
        FoundThings x = new FoundThings();
        x.find(0, 0, 1, 6, 0);
        for (int i = 0; i < 16; i++) {
            x.person(0, 4095);
        }
        Check.due("the least mark, though all have it", 1, x.added(0, 0));
        x.claim(0, 15, 6);
        Check.due("all have, but one claims", 15, x.best(0));
        Check.due("have", 16, x.claimed(0, 4));
        Check.due("rare", 16, x.name(0, 5));
        x.claim(0, 14, 2);
        Check.due("all have, and two claim", -2, x.best(0));
    }

    private static void added() {
        FoundThings x = new FoundThings();
        x.find(0, 0, 1, 0b100000000111, 0);
        Check.due("without persons the least", 0, x.added(0, 0));
        x.person(0, 0b000000000111);
        x.person(0, 0b100000000011);
        x.person(0, 0b100000001001);
        Check.due("fewest", 2, x.added(0, 0));
        Check.due("besides mark 2", 11, x.added(0, 0b100));
        Check.due("besides mark 3, which it has not", 1, x.added(0, 0b1000));
        Check.due("besides mark 11", 2, x.added(0, 0b100000000000));
        Check.due("the last one", 0, x.added(0, 0b111111111110));
        Check.due("none", -1, x.added(0, 0b100000000111));
        Check.due("none", -1, x.added(0, 4095));
        Check.fails("marks 4096", Check.ARGUMENT, () -> x.added(0, 4096));
        Check.fails("marks -1", Check.ARGUMENT, () -> x.added(0, -1));
        Check.fails("find 1", Check.INDEX, () -> x.added(1, -1));
    }
}
