/** Promises 15 to 18: finds, their names, holds and finders. */
public final class FindsTest {
    private FindsTest() {
    }

    public static void main(String[] args) {
        finds();
        names();
        holds();
        Check.end();
    }

    private static void finds() {
        FoundThings x = new FoundThings();
        Check.fails("way 6", Check.ARGUMENT, () -> x.find(6, 0, 1, 0, 0));
        Check.fails("way -1", Check.ARGUMENT, () -> x.find(-1, 0, 1, 0, 0));
        Check.fails("place 4", Check.ARGUMENT, () -> x.find(0, 4, 1, 0, 0));
        Check.fails("place -1", Check.ARGUMENT, () -> x.find(0, -1, 1, 0, 0));
        Check.fails("worth 0", Check.ARGUMENT, () -> x.find(0, 0, 0, 0, 0));
        Check.fails("worth 10000", Check.ARGUMENT, () -> x.find(0, 0, 10000, 0, 0));
        Check.fails("marks 4096", Check.ARGUMENT, () -> x.find(0, 0, 1, 4096, 0));
        Check.fails("marks -1", Check.ARGUMENT, () -> x.find(0, 0, 1, -1, 0));
        Check.fails("keep 100", Check.ARGUMENT, () -> x.find(0, 0, 1, 0, 100));
        Check.fails("keep -1", Check.ARGUMENT, () -> x.find(0, 0, 1, 0, -1));
        for (int i = 0; i < 8; i++) {
            Check.due("find " + i, i, x.find(5, 3, 9999, 4095, 99));
        }
        Check.due("a ninth", -1, x.find(0, 0, 1, 0, 0));
        Check.fails("a ninth of worth 0", Check.ARGUMENT, () -> x.find(0, 0, 0, 0, 0));
        Check.due("finds", 8, x.count(5));
    }

    private static void names() {
        FoundThings x = new FoundThings();
        x.days(3);
        x.find(5, 2, 9999, 0b101000000001, 7);
        x.find(1, 0, 3, 0, 0);
        Check.fails("name 10", Check.ARGUMENT, () -> x.name(0, 10));
        Check.fails("name -1", Check.ARGUMENT, () -> x.name(0, -1));
        Check.fails("find 2", Check.INDEX, () -> x.name(2, 10));
        Check.fails("find -1", Check.INDEX, () -> x.name(-1, 0));
        Check.due("rare without persons", 0, x.name(0, 5));
        x.person(0, 0b101000000001);
        x.person(1, 0b100000000001);
        x.person(1, 0b001000000001);
        x.person(0, 0b001000000000);
        x.passes(0, 2, 1);
        x.passes(1, 2, 99);
        x.passes(2, 2, 50);
        x.passes(3, 0, 20);
        x.ground(2, true, -1);
        x.days(996);
        x.cry(0);
        x.days(1);
        x.cry(0);
        x.cry(0);
        x.claim(0, 0, 1);
        x.claim(1, 0, 1);
        x.claim(0, 0, 2);
        int[] due = {5, 2, 9999, 1, 3, 2, 0, 997, 2, 2};
        int[] other = {1, 0, 3, 0, 0, 0, 100, 997, 0, 1};
        for (int i = 0; i < 10; i++) {
            Check.due("name " + i, due[i], x.name(0, i));
            Check.due("name " + i + " of the other", other[i], x.name(1, i));
        }
        x.passes(0, 2, 2);
        Check.due("own, cut", 200 / 151, x.name(0, 6));
        x.passes(0, 2, 0);
        x.passes(1, 2, 0);
        x.passes(2, 2, 0);
        Check.due("own without", 0, x.name(0, 6));
        x.passes(0, 2, 1);
        Check.due("own of one", 100, x.name(0, 6));
    }

    private static void holds() {
        FoundThings x = new FoundThings();
        x.find(0, 0, 1, 0, 0);
        for (int i = 0; i < 16; i++) {
            x.person(0, 0);
        }
        Check.due("no finders", 0, x.finders(0));
        Check.fails("find 1", Check.INDEX, () -> x.hold(1, 99, 9, 9));
        Check.fails("person 16", Check.ELEMENT, () -> x.hold(0, 16, 9, 9));
        Check.fails("how 3", Check.ARGUMENT, () -> x.hold(0, 0, 3, 0));
        Check.fails("how -1", Check.ARGUMENT, () -> x.hold(0, 0, -1, 0));
        Check.fails("time 1000", Check.ARGUMENT, () -> x.hold(0, 0, 0, 1000));
        Check.fails("time -1", Check.ARGUMENT, () -> x.hold(0, 0, 0, -1));
        Check.fails("finders of 1", Check.INDEX, () -> x.finders(1));
        Check.due("hold", 1, x.hold(0, 3, 0, 0));
        Check.due("who saw it", 8, x.finders(0));
        Check.due("hold", 2, x.hold(0, 4, 1, 999));
        Check.due("who fell on it", 16, x.finders(0));
        Check.due("hold", 3, x.hold(0, 15, 1, 998));
        Check.due("who was first", 1 << 15, x.finders(0));
        Check.due("hold", 4, x.hold(0, 0, 1, 998));
        Check.due("two at once", 1 << 15 | 1, x.finders(0));
        Check.due("hold", 5, x.hold(0, 1, 2, 999));
        Check.due("who lifted it", 2, x.finders(0));
        Check.due("hold", 6, x.hold(0, 2, 2, 999));
        Check.due("two of them", 6, x.finders(0));
        Check.due("a seventh", -1, x.hold(0, 5, 2, 0));
        Check.due("they stay", 6, x.finders(0));
        Check.fails("a seventh of how 3", Check.ARGUMENT, () -> x.hold(0, 0, 3, 0));
    }
}
