/** Promises 11 to 14: persons, passes, places and days. */
public final class PersonsTest {
    private PersonsTest() {
    }

    public static void main(String[] args) {
        persons();
        places();
        days();
        Check.end();
    }

    private static void persons() {
        FoundThings x = new FoundThings();
        Check.fails("kind -1", Check.ARGUMENT, () -> x.person(-1, 0));
        Check.fails("kind 2", Check.ARGUMENT, () -> x.person(2, 0));
        Check.fails("marks -1", Check.ARGUMENT, () -> x.person(0, -1));
        Check.fails("marks 4096", Check.ARGUMENT, () -> x.person(0, 4096));
        for (int i = 0; i < 16; i++) {
            Check.due("person " + i, i, x.person(i & 1, 4095));
        }
        Check.due("a 17th", -1, x.person(0, 0));
        Check.fails("a 17th of kind 2", Check.ARGUMENT, () -> x.person(2, 0));
        Check.due("persons", 16, x.count(3));
        Check.due("passes", 0, x.passes(15, 3, 99));
        Check.due("passes were", 99, x.passes(15, 3, 0));
        Check.due("other place", 0, x.passes(15, 2, 1));
        Check.fails("person 16", Check.ELEMENT, () -> x.passes(16, 9, 100));
        Check.fails("person -1", Check.ELEMENT, () -> x.passes(-1, 0, 0));
        Check.fails("place 4", Check.ARGUMENT, () -> x.passes(0, 4, 0));
        Check.fails("place -1", Check.ARGUMENT, () -> x.passes(0, -1, 0));
        Check.fails("100 passes", Check.ARGUMENT, () -> x.passes(0, 0, 100));
        Check.fails("-1 passes", Check.ARGUMENT, () -> x.passes(0, 0, -1));
    }

    private static void places() {
        FoundThings x = new FoundThings();
        x.person(0, 0);
        x.find(0, 3, 1, 0, 0);
        Check.due("not walled at first", 0, x.name(0, 3));
        Check.due("ground was none", -1, x.ground(3, true, 0));
        Check.due("walled", 1, x.name(0, 3));
        Check.due("ground was 0", 0, x.ground(3, false, -1));
        Check.due("not walled", 0, x.name(0, 3));
        Check.due("ground was none again", -1, x.ground(3, true, -1));
        Check.fails("place 4", Check.ARGUMENT, () -> x.ground(4, true, 5));
        Check.fails("place -1", Check.ARGUMENT, () -> x.ground(-1, true, 0));
        Check.fails("person 1", Check.ELEMENT, () -> x.ground(3, false, 1));
        Check.fails("person -2", Check.ELEMENT, () -> x.ground(3, false, -2));
        Check.due("still walled", 1, x.name(0, 3));
    }

    private static void days() {
        FoundThings x = new FoundThings();
        Check.fails("-1 days", Check.ARGUMENT, () -> x.days(-1));
        Check.fails("1000 days", Check.ARGUMENT, () -> x.days(1000));
        for (int i = 1; i <= 10; i++) {
            Check.due("days", 999L * i, x.days(999));
        }
        Check.fails("too far", Check.STATE, () -> x.days(10));
        Check.fails("too many", Check.ARGUMENT, () -> x.days(1000));
        Check.due("the last day", 9999, x.days(9));
        Check.fails("behind it", Check.STATE, () -> x.days(1));
        Check.due("stays", 9999, x.days(0));
        Check.due("today", 9999, x.count(4));
    }
}
