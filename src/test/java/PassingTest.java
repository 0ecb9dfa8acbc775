/** Promises 36 to 39: things passed on, who has them, who is away, who loses. */
public final class PassingTest {
    private PassingTest() {
    }

    public static void main(String[] args) {
        passing();
        limits();
        losses();
        Check.end();
    }

    private static FoundThings four() {
        FoundThings x = new FoundThings();
        for (int i = 0; i < 4; i++) {
            x.person(0, 0);
        }
        x.find(0, 0, 1, 0, 0);
        x.find(0, 0, 1, 0, 0);
        return x;
    }

    private static void passing() {
        FoundThings x = four();
        Check.due("nobody has it", 0, x.has(0));
        Check.due("nobody passes it on", -2, x.pass(0, 0, 1, 0));
        x.hold(0, 0, 1, 3);
        x.hold(0, 2, 1, 3);
        Check.due("both have it", 5, x.has(0));
        Check.due("not this one", -2, x.pass(0, 1, 0, 9999));
        Check.due("to oneself", -2, x.pass(0, 0, 0, 0));
        Check.due("one of them passes it on", 3, x.pass(0, 2, 3, 9999));
        Check.due("has", 8, x.has(0));
        Check.due("the other has it no more", -2, x.pass(0, 0, 1, 0));
        x.hold(0, 1, 2, 0);
        Check.due("a later hold changes nothing", 8, x.has(0));
        Check.due("finder all the same", 2, x.finders(0));
        Check.due("back to one who had it", 0, x.pass(0, 3, 0, 0));
        Check.due("passed on", 2, x.count(7));
        Check.due("the other find", 0, x.has(1));
        Check.fails("find 2", Check.INDEX, () -> x.pass(2, 9, 9, 10000));
        Check.fails("from 4", Check.ELEMENT, () -> x.pass(0, 4, 0, 10000));
        Check.fails("to 4", Check.ELEMENT, () -> x.pass(0, 0, 4, 10000));
        Check.fails("to -1", Check.ELEMENT, () -> x.pass(0, 0, -1, 0));
        Check.fails("price 10000", Check.ARGUMENT, () -> x.pass(0, 0, 0, 10000));
        Check.fails("price -1", Check.ARGUMENT, () -> x.pass(0, 1, 0, -1));
        Check.fails("has(2)", Check.INDEX, () -> x.has(2));
    }

    private static void limits() {
        FoundThings x = four();
        x.hold(0, 0, 0, 0);
        x.hold(1, 0, 0, 0);
        Check.due("the other find first", 1, x.pass(1, 0, 1, 7));
        for (int i = 0; i < 39; i++) {
            Check.due("pass " + i, 1 - i % 2, x.pass(0, i % 2, 1 - i % 2, 1));
        }
        Check.due("a 41st", -1, x.pass(0, 1, 0, 1));
        Check.fails("a 41st at 10000", Check.ARGUMENT, () -> x.pass(0, 1, 0, 10000));
        Check.due("passed on", 40, x.count(7));
        Check.due("has", 2, x.has(0));
    }

    private static void losses() {
        FoundThings x = four();
        x.hold(0, 0, 0, 0);
        x.hold(1, 0, 0, 0);
        x.pass(0, 0, 1, 10);
        x.pass(0, 1, 2, 40);
        x.pass(0, 2, 1, 300);
        x.pass(0, 1, 3, 1000);
        x.pass(1, 0, 3, 5000);
        for (int i = 0; i < 4; i++) {
            Check.due("all goes back", 0, x.loss(0, i));
        }
        Check.due("was here", 0, x.away(1, true) ? 1 : 0);
        Check.due("was away", 1, x.away(1, true) ? 1 : 0);
        int[] oneAway = {0, -1040, 40, 1000};
        for (int i = 0; i < 4; i++) {
            Check.due("loss with 1 away", oneAway[i], x.loss(0, i));
        }
        x.away(0, true);
        x.away(2, true);
        int[] threeAway = {-10, -1040 + 10 + 300, 40 - 300, 1000};
        for (int i = 0; i < 4; i++) {
            Check.due("loss with 0 to 2 away", threeAway[i], x.loss(0, i));
        }
        Check.due("the other find", -5000, x.loss(1, 0));
        Check.due("the other find", 5000, x.loss(1, 3));
        Check.due("was away", 1, x.away(1, false) ? 1 : 0);
        Check.due("back again", -10 + 10, x.loss(0, 3) - x.loss(0, 0) - 10);
        x.away(3, true);
        Check.due("the payer's being away is nothing", 0, x.loss(0, 3));
        Check.fails("away(4)", Check.ELEMENT, () -> x.away(4, true));
        Check.fails("away(-1)", Check.ELEMENT, () -> x.away(-1, false));
        Check.fails("loss(2, 9)", Check.INDEX, () -> x.loss(2, 9));
        Check.fails("loss(0, 4)", Check.ELEMENT, () -> x.loss(0, 4));
    }
}
