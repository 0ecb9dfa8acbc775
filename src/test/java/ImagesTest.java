/** Promises 42 to 44: images, restoring and counts. */
public final class ImagesTest {
    private ImagesTest() {
    }

    public static void main(String[] args) {
        stack();
        allIsKept();
        whatIsNotKept();
        counts();
        Check.end();
    }

    private static void stack() {
        FoundThings x = new FoundThings();
        Check.due("none", -1, x.restore());
        Check.due("image", 1, x.image());
        x.days(1);
        Check.due("image", 2, x.image());
        x.days(1);
        Check.due("image", 3, x.image());
        x.days(1);
        Check.due("a fourth", -1, x.image());
        Check.due("restore", 2, x.restore());
        Check.due("the latest", 2, x.count(4));
        Check.due("image again", 3, x.image());
        x.days(7);
        Check.due("restore", 2, x.restore());
        Check.due("today", 2, x.count(4));
        Check.due("restore", 1, x.restore());
        Check.due("today", 1, x.count(4));
        Check.due("restore", 0, x.restore());
        Check.due("today", 0, x.count(4));
        Check.due("none", -1, x.restore());
        Check.due("today stays", 0, x.count(4));
    }

    private static void allIsKept() {
        FoundThings x = new FoundThings();
        x.person(0, 1);
        x.person(1, 3);
        x.passes(0, 0, 5);
        x.passes(1, 0, 5);
        x.ground(0, true, 1);
        x.know(1, 1);
        x.weigh(2, 9);
        Check.holds(x, "u0;");
        x.find(3, 0, 50, 3, 2);
        x.hold(0, 0, 1, 4);
        x.claim(0, 1, 3);
        x.cry(0);
        x.days(1);
        long all = x.all();
        x.image();
        Check.holds(x, "not u0;");
        x.know(1, 2);
        x.know(2, 0);
        x.weigh(2, 1);
        x.person(0, 3);
        x.passes(0, 0, 0);
        x.passes(2, 0, 50);
        x.ground(0, false, -1);
        x.hold(0, 1, 2, 0);
        x.pass(0, 1, 0, 9);
        x.away(1, true);
        x.cry(0);
        x.days(3);
        x.cry(0);
        x.claim(0, 2, 1);
        x.find(0, 0, 1, 0, 0);
        Check.due("restore", 0, x.restore());
        int[] counts = {0, 1, 9, 2, 1, 1, 1, 0, 0, 0};
        for (int what = 0; what < 10; what++) {
            Check.due("count " + what, counts[what], x.count(what));
        }
        int[] names = {3, 0, 50, 1, 2, 1, 50, 1, 1, 1};
        for (int which = 0; which < 10; which++) {
            Check.due("name " + which, names[which], x.name(0, which));
        }
        Check.due("worlds", 256, x.worlds());
        Check.due("all", all, x.all());
        Check.due("weight", 9, x.weigh(2, 9));
        Check.due("known", 1, x.know(1, 1));
        Check.due("finders", 1, x.finders(0));
        Check.due("has", 1, x.has(0));
        Check.due("away", 0, x.away(1, false) ? 1 : 0);
        Check.due("passes", 5, x.passes(0, 0, 5));
        Check.due("ground", 1, x.ground(0, true, 1));
        Check.due("gone", 25, x.gone(0));
        Check.due("not cried today", 1, x.cry(0));
        Check.due("a person is new again", 2, x.person(0, 0));
        Check.due("without passes", 0, x.passes(2, 0, 0));
        Check.due("here", 0, x.away(2, true) ? 1 : 0);
        Check.due("a find is new again", 1, x.find(0, 0, 1, 0, 0));
        Check.due("never cried", 0, x.name(1, 8));
    }

    private static void whatIsNotKept() {
        FoundThings x = new FoundThings();
        Check.law(x, "owner;");
        x.image();
        Check.law(x, "crown;");
        x.restore();
        Check.due("laws stay", 2, x.count(0));
    }

    private static void counts() {
        FoundThings x = new FoundThings();
        Check.due("count(-1)", -1, x.count(-1));
        Check.due("count(10)", -1, x.count(10));
        Check.law(x, "owner;");
        Check.holds(x, "u0;");
        Check.holds(x, "u0;");
        Check.closeFrom(x, 7);
        for (int i = 0; i < 4; i++) {
            x.person(0, 1);
        }
        x.days(44);
        for (int i = 0; i < 5; i++) {
            x.find(0, 0, 1, 1, 0);
        }
        for (int i = 0; i < 6; i++) {
            x.claim(0, 0, 1);
        }
        x.hold(0, 0, 0, 0);
        for (int i = 0; i < 8; i++) {
            x.pass(0, i & 1, 1 - (i & 1), 0);
        }
        x.image();
        x.image();
        x.feed(0, 0, 0, 0, 0);
        int[] due = {1, 2, 7, 4, 44, 5, 6, 8, 2, 20};
        for (int what = 0; what < 10; what++) {
            Check.due("count " + what, due[what], x.count(what));
        }
    }
}
