/** The edges of promises 36 to 39: things passed on, who has them, who is gone, who loses. */
public final class PassingEdgesTest {
    private PassingEdgesTest() {
    }

    public static void main(String[] args) {
        passBounds();
        whoMayPass();
        forty();
        fortyInAll();
        has();
        away();
        lossBounds();
        losses();
        greatestLoss();
        bothGone();
        lossByTheLastFind();
        Check.end();
    }

    private static FoundThings told(int persons, int finds) {
        FoundThings x = new FoundThings();
        for (int i = 0; i < persons; i++) {
            x.person(0, 0);
        }
        for (int i = 0; i < finds; i++) {
            x.find(0, 0, 1, 0, 0);
        }
        return x;
    }

    private static void passBounds() {
        Check.promise(36, "IndexOutOfBoundsException: no such FIND");
        Check.fails("no find at all", Check.INDEX, () -> told(2, 0).pass(0, 0, 1, 0));
        FoundThings x = told(2, 2);
        Check.bounds("find", 0, 1, Check.INDEX, find -> x.pass(find, 0, 1, 0));
        Check.promise(36, "NoSuchElementException: no such PERSON");
        Check.fails("no person at all", Check.ELEMENT, () -> told(0, 1).pass(0, 0, 0, 0));
        Check.bounds("from", 0, 1, Check.ELEMENT, from -> x.pass(0, from, 0, 0));
        Check.bounds("to", 0, 1, Check.ELEMENT, to -> x.pass(0, 0, to, 0));
        Check.promise(36, "IllegalArgumentException: the price");
        Check.bounds("price where nobody has it", 0, 9999, Check.ARGUMENT, price -> x.pass(0, 0, 1, price));
        Check.due("none was passed on", 0, x.count(7));
        x.hold(0, 0, 0, 0);
        Check.refuses("price", 0, 9999, Check.ARGUMENT, price -> x.pass(0, 0, 1, price));
        Check.due("refused ones are none", 0, x.count(7));
        Check.due("nor does another one have it", 1, x.has(0));
        Check.due("at 0", 1, x.pass(0, 0, 1, 0));
        Check.due("at 9,999", 0, x.pass(0, 1, 0, 9999));
        Check.due("two were passed on", 2, x.count(7));
    }

    private static void whoMayPass() {
        Check.promise(36, "-2: the one who passes it on does not have it, or both are one");
        FoundThings x = told(16, 2);
        Check.due("nobody has it", -2, x.pass(0, 0, 1, 5));
        x.hold(0, 2, 1, 5);
        x.hold(0, 15, 1, 5);
        x.hold(0, 3, 1, 6);
        Check.due("held it too late", -2, x.pass(0, 3, 1, 5));
        Check.due("never held it", -2, x.pass(0, 0, 1, 5));
        Check.due("both are one, who has it", -2, x.pass(0, 2, 2, 5));
        Check.due("both are one, who has not", -2, x.pass(0, 0, 0, 5));
        Check.due("none of these was done", 0, x.count(7));
        Check.due("they have it still", 32772, x.has(0));
        Check.promise(36, "who has it then; at first any of the FINDERS");
        Check.due("one finder to the other", 2, x.pass(0, 15, 2, 5));
        Check.due("who has it alone", -2, x.pass(0, 15, 0, 5));
        Check.due("and passes it on", 0, x.pass(0, 2, 0, 5));
        Check.due("a finder has it no more", -2, x.pass(0, 2, 1, 5));
        Check.due("back to the finder", 15, x.pass(0, 0, 15, 5));
        Check.due("three were done", 3, x.count(7));
        Check.due("the other find is nobody's", -2, x.pass(1, 15, 0, 5));
        x.away(15, true);
        Check.due("one who is gone passes it on, too", 1, x.pass(0, 15, 1, 5));
    }

    private static void forty() {
        Check.promise(36, "-1: there are 40");
        FoundThings x = told(2, 1);
        x.hold(0, 0, 0, 0);
        for (int i = 0; i < 40; i++) {
            Check.due("pass " + i, 1 - i % 2, x.pass(0, i % 2, 1 - i % 2, 1));
            Check.due("so many", i + 1, x.count(7));
        }
        for (int i = 0; i < 2; i++) {
            Check.due("a 41st", -1, x.pass(0, 0, 1, 1000));
            Check.due("there are 40", 40, x.count(7));
            Check.due("who has it", 1, x.has(0));
        }
        x.away(0, true);
        Check.due("the 20 prices of the one", -20, x.loss(0, 0));
        x.away(0, false);
        x.away(1, true);
        Check.due("the 20 prices of the other", -20, x.loss(0, 1));
    }

    private static void fortyInAll() {
        Check.promise(36, "40 at most in all");
        FoundThings x = told(2, 8);
        for (int find = 0; find < 8; find++) {
            x.hold(find, 0, 0, 0);
            for (int i = 0; i < 5; i++) {
                Check.due("pass", 1 - i % 2, x.pass(find, i % 2, 1 - i % 2, find));
            }
        }
        Check.due("a 41st of the first", -1, x.pass(0, 1, 0, 0));
        Check.due("a 41st of the last", -1, x.pass(7, 1, 0, 0));
        Check.due("who has the last", 2, x.has(7));
        x.away(0, true);
        for (int find = 0; find < 8; find++) {
            Check.due("loss by " + find, 3 * find, x.loss(find, 1));
        }
    }

    private static void has() {
        Check.promise(37, "IndexOutOfBoundsException: no such FIND");
        FoundThings x = told(16, 0);
        Check.fails("no find at all", Check.INDEX, () -> x.has(0));
        x.find(0, 0, 1, 0, 0);
        x.find(0, 0, 1, 0, 0);
        Check.bounds("find", 0, 1, Check.INDEX, x::has);
        Check.promise(37, "as bits: FINDERS, as long as it was not PASSED ON");
        Check.due("nobody", 0, x.has(0));
        x.hold(0, 15, 0, 0);
        Check.due("the 16th", 32768, x.has(0));
        x.hold(0, 0, 0, 0);
        Check.due("both", 32769, x.has(0));
        x.hold(0, 1, 1, 0);
        Check.due("a better one", 2, x.has(0));
        x.pass(0, 1, 1, 0);
        Check.due("what was refused is not passed on", 2, x.has(0));
        x.hold(0, 2, 1, 0);
        Check.due("so that finders count still", 6, x.has(0));
        x.pass(0, 2, 0, 0);
        Check.due("passed on", 1, x.has(0));
        x.hold(0, 3, 2, 0);
        Check.due("finders count no more", 1, x.has(0));
        Check.due("though there are others", 8, x.finders(0));
        x.pass(0, 0, 15, 0);
        Check.due("the 16th again", 32768, x.has(0));
        Check.due("the other find", 0, x.has(1));
    }

    private static void away() {
        Check.promise(38, "NoSuchElementException: no such PERSON");
        Check.fails("no person at all", Check.ELEMENT, () -> told(0, 0).away(0, true));
        FoundThings x = told(16, 0);
        Check.bounds("person", 0, 15, Check.ELEMENT, person -> x.away(person, false));
        Check.promise(38, "a PERSON is gone, or not: whether that was so");
        boolean[] told = {false, true, true, false, false, true};
        for (int person = 0; person < 16; person += 15) {
            boolean was = false;
            for (boolean is : told) {
                Check.due("away", was ? 1 : 0, x.away(person, is) ? 1 : 0);
                was = is;
            }
            Check.due("another one is not", 0, x.away(7, false) ? 1 : 0);
        }
    }

    private static void lossBounds() {
        Check.promise(39, "IndexOutOfBoundsException: no such FIND");
        Check.fails("no find at all", Check.INDEX, () -> told(1, 0).loss(0, 0));
        FoundThings x = told(2, 2);
        Check.bounds("find", 0, 1, Check.INDEX, find -> x.loss(find, 0));
        Check.promise(39, "NoSuchElementException: no such PERSON");
        Check.fails("no person at all", Check.ELEMENT, () -> told(0, 1).loss(0, 0));
        Check.bounds("person", 0, 1, Check.ELEMENT, person -> x.loss(0, person));
        Check.promise(39, "nothing was PASSED ON");
        x.away(0, true);
        Check.due("no loss", 0, x.loss(0, 0));
    }

    private static void losses() {
        Check.promise(39, "each price goes back, but none from a PERSON who is gone");
        FoundThings x = told(4, 2);
        x.hold(0, 0, 0, 0);
        x.hold(1, 0, 0, 0);
        x.pass(0, 0, 1, 10);
        x.pass(0, 1, 2, 200);
        x.pass(0, 2, 3, 3000);
        x.pass(1, 0, 1, 5);
        Check.dueAll("all are there", new int[] {0, 0, 0, 0}, loss(x));
        x.away(3, true);
        Check.dueAll("one who passed nothing on", new int[] {0, 0, 0, 0}, loss(x));
        x.away(0, true);
        Check.dueAll("the first", new int[] {-10, 10, 0, 0}, loss(x));
        Check.due("by the other find", 5, x.loss(1, 1));
        x.away(0, false);
        x.away(2, true);
        Check.dueAll("the third", new int[] {0, 0, -3000, 3000}, loss(x));
        Check.due("by the other find", 0, x.loss(1, 1));
        x.away(1, true);
        Check.dueAll("second and third", new int[] {0, -200, -2800, 3000}, loss(x));
        x.away(1, false);
        x.away(2, false);
        Check.dueAll("all are there again", new int[] {0, 0, 0, 0}, loss(x));
    }

    private static int[] loss(FoundThings x) {
        return new int[] {x.loss(0, 0), x.loss(0, 1), x.loss(0, 2), x.loss(0, 3)};
    }

    private static void greatestLoss() {
        Check.promise(39, "LOSS more the price, LOSS less the price (below 0: what is won); all such together");
        FoundThings x = told(16, 1);
        x.hold(0, 0, 0, 0);
        for (int i = 0; i < 20; i++) {
            x.pass(0, 0, 15, 9999);
            x.pass(0, 15, 0, 0);
        }
        x.away(0, true);
        Check.due("what is lost", 199980, x.loss(0, 15));
        Check.due("what is won", -199980, x.loss(0, 0));
        x.away(15, true);
        Check.due("prices of 0 change nothing", 199980, x.loss(0, 15));
        Check.due("another one", 0, x.loss(0, 7));
    }

    private static void bothGone() {
        Check.promise(39, "the same PERSON paid and was paid");
        FoundThings x = told(2, 1);
        x.hold(0, 0, 0, 0);
        x.pass(0, 0, 1, 30);
        x.pass(0, 1, 0, 70);
        x.away(0, true);
        Check.due("the one who is gone", -30, x.loss(0, 0));
        Check.due("the other", 30, x.loss(0, 1));
        x.away(1, true);
        Check.due("both are gone", 40, x.loss(0, 0));
        Check.due("both are gone", -40, x.loss(0, 1));
        x.away(0, false);
        Check.due("one is gone", 70, x.loss(0, 0));
        Check.due("the other one", -70, x.loss(0, 1));
    }

    private static void lossByTheLastFind() {
        Check.promise(39, "LOSS of a PERSON by a FIND, whichever number it has");
        FoundThings x = told(3, 8);
        x.away(0, true);
        for (int find = 7; find >= 0; find--) {
            x.hold(find, 0, 0, 0);
            x.pass(find, 0, 1 + find % 2, 10 + find);
            for (int other = 0; other < 8; other++) {
                int price = other >= find ? 10 + other : 0;
                Check.due("of the one who is gone, by " + other, -price, x.loss(other, 0));
                Check.due("of the one who paid, by " + other, price, x.loss(other, 1 + other % 2));
                Check.due("of the other, by " + other, 0, x.loss(other, 2 - other % 2));
            }
        }
        FoundThings y = told(2, 1);
        y.away(0, true);
        y.image();
        y.hold(0, 0, 0, 0);
        y.pass(0, 0, 1, 5);
        Check.due("lost", 5, y.loss(0, 1));
        y.restore();
        Check.due("not passed on", 0, y.loss(0, 1));
    }
}
