/** The edges of promises 42 to 44: images, restoring, counts. */
public final class ImageEdgesTest {
    private ImageEdgesTest() {
    }

    public static void main(String[] args) {
        threeImages();
        latestFirst();
        lawsAreNotKept();
        fullAgain();
        emptyAgain();
        slotsAnew();
        whatChangesIsKept();
        conditionsAreKept();
        otherCounts();
        fullCounts();
        Check.end();
    }

    private static void threeImages() {
        Check.promise(42, "how many there are; -1: there are 3");
        FoundThings x = new FoundThings();
        for (int image = 1; image <= 3; image++) {
            x.days(10);
            Check.due("image", image, x.image());
            Check.due("so many", image, x.count(8));
        }
        x.days(10);
        for (int i = 0; i < 2; i++) {
            Check.due("a fourth", -1, x.image());
            Check.due("there are 3", 3, x.count(8));
            Check.due("today", 40, x.count(4));
        }
        for (int image = 3; image >= 1; image--) {
            Check.due("restored", image - 1, x.restore());
            Check.due("as it was then", 10 * image, x.count(4));
        }
    }

    private static void latestFirst() {
        Check.promise(43, "-1: there is none");
        FoundThings x = new FoundThings();
        x.days(5);
        for (int i = 0; i < 2; i++) {
            Check.due("none yet", -1, x.restore());
            Check.due("today stays", 5, x.count(4));
            Check.due("no images", 0, x.count(8));
        }
        Check.promise(43, "how many IMAGES are left (the latest, which is gone then)");
        x.image();
        x.days(1);
        x.image();
        x.days(1);
        Check.due("the latest", 1, x.restore());
        Check.due("today", 6, x.count(4));
        x.days(100);
        Check.due("room for two more", 2, x.image());
        x.days(1);
        Check.due("room for one more", 3, x.image());
        Check.due("no more room", -1, x.image());
        int[] due = {107, 106, 5};
        for (int i = 0; i < 3; i++) {
            Check.due("restored", 2 - i, x.restore());
            Check.due("today", due[i], x.count(4));
        }
        Check.due("none is left", -1, x.restore());
        Check.due("today stays", 5, x.count(4));
    }

    private static void lawsAreNotKept() {
        Check.promise(43, "all that was told but LAWS");
        FoundThings x = new FoundThings();
        x.find(0, 0, 1, 0, 0);
        x.image();
        for (int law = 0; law < 3; law++) {
            Check.law(x, law == 1 ? "halves;" : "crown;");
        }
        Check.due("restored", 0, x.restore());
        Check.due("laws stay", 3, x.count(0));
        Check.due("and say the same", 3, x.sure(0, 1));
        Check.due("there are 3 still", -1, Check.law(x, "finder;"));
    }

    /** What was full when the image was made is full again, and what was told between is gone. */
    private static void fullAgain() {
        Check.promise(43, "to RESTORE makes it so again: what was full");
        FoundThings x = new FoundThings();
        full(x);
        x.image();
        x.away(15, true);
        x.know(9, 1);
        x.weigh(8, 9);
        x.passes(15, 3, 99);
        x.ground(3, true, 15);
        Check.due("restored", 0, x.restore());
        Check.due("conditions", -1, Check.holds(x, "u0;"));
        Check.due("persons", -1, x.person(0, 0));
        Check.due("finds", -1, x.find(0, 0, 1, 0, 0));
        Check.due("holds", -1, x.hold(7, 0, 0, 0));
        Check.due("claims", -1, x.claim(0, 0, 1));
        Check.due("passed on", -1, x.pass(7, 0, 1, 0));
        Check.fails("days", Check.STATE, () -> x.days(1));
        Check.due("away", 0, x.away(15, false) ? 1 : 0);
        Check.due("known", 2, x.know(9, 2));
        Check.due("weight", 5, x.weigh(8, 5));
        Check.due("passes", 0, x.passes(15, 3, 0));
        Check.due("walled", 0, x.name(7, 3));
        Check.due("ground", -1, x.ground(3, false, -1));
    }

    private static void full(FoundThings x) {
        for (int i = 0; i < 8; i++) {
            Check.holds(x, "1=1;");
            x.find(5, 3, 9999, 4095, 99);
        }
        for (int i = 0; i < 16; i++) {
            x.person(0, 4095);
        }
        for (int i = 0; i < 6; i++) {
            x.hold(7, 0, 0, 0);
        }
        for (int i = 0; i < 24; i++) {
            x.claim(7, 0, 1);
        }
        for (int i = 0; i < 40; i++) {
            x.pass(7, i % 2, 1 - i % 2, 1);
        }
        for (int i = 0; i < 10; i++) {
            x.days(999);
        }
        x.days(9);
    }

    private static void emptyAgain() {
        Check.promise(43, "to RESTORE makes it so again: what was empty");
        FoundThings x = new FoundThings();
        x.image();
        full(x);
        x.ground(0, true, 15);
        x.away(0, true);
        x.cry(7);
        x.passes(0, 0, 99);
        Check.due("restored", 0, x.restore());
        int[] counts = {0, 0, 10, 0, 0, 0, 0, 0, 0, 0};
        for (int what = 0; what < 10; what++) {
            Check.due("count(" + what + ")", counts[what], x.count(what));
        }
        Check.fails("no person", Check.ELEMENT, () -> x.away(0, true));
        Check.fails("no find", Check.INDEX, () -> x.finders(0));
        Check.fails("no claim", Check.INDEX, () -> x.claimed(0, 0));
        Check.due("ground", -1, x.ground(0, false, -1));
        Check.due("a person anew", 0, x.person(1, 0));
        Check.due("who was never away", 0, x.away(0, false) ? 1 : 0);
        Check.due("without passes", 0, x.passes(0, 0, 0));
        Check.due("a find anew", 0, x.find(0, 0, 1, 0, 0));
        int[] names = {0, 0, 1, 0, 0, 0, 0, 0, 0, 0};
        for (int which = 0; which < 10; which++) {
            Check.due("name " + which, names[which], x.name(0, which));
        }
        Check.due("nobody has it", 0, x.has(0));
        Check.due("nobody held it", 1, x.hold(0, 0, 0, 0));
        Check.due("nobody lost by it", 0, x.loss(0, 0));
        Check.due("nobody claimed it", 0, x.claim(0, 0, 1));
        Check.due("nobody cried it", 1, x.cry(0));
    }

    /** A find, a person and an unknown that were told much before are new once what was told is gone. */
    private static void slotsAnew() {
        Check.promise(43, "to RESTORE makes it so again: nothing is left of a FIND or a PERSON that were none");
        FoundThings x = new FoundThings();
        x.image();
        x.person(0, 1);
        x.person(0, 1);
        x.passes(0, 3, 99);
        x.away(0, true);
        x.find(5, 3, 9999, 4095, 99);
        x.cry(0);
        x.hold(0, 0, 2, 0);
        x.pass(0, 0, 1, 9);
        x.claim(0, 0, 1);
        x.restore();
        Check.due("a person", 0, x.person(1, 2));
        Check.due("with no passes", 0, x.passes(0, 3, 0));
        Check.due("who is there", 0, x.away(0, false) ? 1 : 0);
        Check.due("a find", 0, x.find(0, 0, 1, 0, 0));
        int[] names = {0, 0, 1, 0, 0, 0, 0, 0, 0, 0};
        for (int which = 0; which < 10; which++) {
            Check.due("name " + which, names[which], x.name(0, which));
        }
        Check.dueAll("nobody's", new int[] {0, 0, -1, -1}, x.finders(0), x.has(0), x.best(0), x.gone(0));
        Check.due("not cried today", 1, x.cry(0));
        Check.due("the first hold", 1, x.hold(0, 0, 0, 999));
        Check.due("by which it is found", 1, x.has(0));
        Check.due("the first claim", 0, x.claim(0, 0, 1));
        x.person(0, 0);
        x.away(0, true);
        Check.due("nothing lost by what was passed on before", 0, x.loss(0, 1));
        Check.due("nor won", 0, x.loss(0, 0));
    }

    /** All that may become another one behind an image, with three images of the same. */
    private static void whatChangesIsKept() {
        Check.promise(42, "all that was told is kept, whatever is told then");
        FoundThings x = new FoundThings();
        for (int person = 0; person < 3; person++) {
            x.person(0, 3);
        }
        x.find(0, 0, 50, 3, 7);
        tellFirst(x);
        for (int image = 1; image <= 3; image++) {
            x.image();
        }
        for (int image = 3; image > 0; image--) {
            tellOther(x);
            Check.due("restored", image - 1, x.restore());
            Check.dueAll("counts", new int[] {9, 3, 1, 1, 1, 1},
                x.count(2), x.count(3), x.count(4), x.count(5), x.count(6), x.count(7));
            Check.dueAll("names", new int[] {1, 2, 3, 100, 1, 1, 1},
                x.name(0, 3), x.name(0, 4), x.name(0, 5), x.name(0, 6), x.name(0, 7), x.name(0, 8), x.name(0, 9));
            Check.dueAll("of the find", new int[] {2, 4, 8, 43, 0}, x.finders(0), x.has(0), x.gone(0), x.left(0, 1), x.cry(0));
            Check.dueAll("losses", new int[] {0, -10, 10}, x.loss(0, 0), x.loss(0, 1), x.loss(0, 2));
            Check.dueAll("what is told as it was", new int[] {1, 9, 1}, x.know(1, 1), x.weigh(3, 9), x.ground(0, true, 1));
            for (int person = 0; person < 3; person++) {
                Check.due("passes of " + person, person + 1, x.passes(person, 0, person + 1));
                Check.due("away " + person, person == 1 ? 1 : 0, x.away(person, person == 1) ? 1 : 0);
            }
        }
        Check.due("holds", 2, x.hold(0, 0, 0, 0));
    }

    private static void tellFirst(FoundThings x) {
        x.know(1, 1);
        x.weigh(3, 9);
        for (int person = 0; person < 3; person++) {
            x.passes(person, 0, person + 1);
        }
        x.ground(0, true, 1);
        x.days(1);
        x.cry(0);
        x.hold(0, 1, 1, 8);
        x.claim(0, 0, 1);
        x.pass(0, 1, 2, 10);
        x.away(1, true);
    }

    private static void tellOther(FoundThings x) {
        x.know(1, 2);
        x.weigh(3, 2);
        for (int person = 0; person < 3; person++) {
            x.passes(person, 0, 50);
            x.away(person, person != 1);
        }
        x.ground(0, false, -1);
        x.days(3);
        x.cry(0);
        x.hold(0, 2, 2, 0);
        x.claim(0, 1, 2);
        x.pass(0, 2, 0, 500);
        x.person(1, 4095);
        x.passes(3, 0, 99);
    }

    private static void conditionsAreKept() {
        Check.promise(43, "CONDITIONS and what is told of UNKNOWNS are as they were");
        FoundThings x = new FoundThings();
        x.image();
        for (int i = 0; i < 4; i++) {
            Check.holds(x, "u" + i + ";");
        }
        x.image();
        for (int i = 4; i < 8; i++) {
            Check.holds(x, "u" + i + ";");
        }
        Check.due("worlds", 4, x.worlds());
        Check.due("restored", 1, x.restore());
        Check.due("conditions", 4, x.count(1));
        Check.due("worlds", 64, x.worlds());
        Check.due("the first", 15, x.world(0));
        Check.due("another one", 5, Check.holds(x, "not u9;"));
        Check.due("worlds", 32, x.worlds());
        Check.due("restored", 0, x.restore());
        Check.due("conditions", 0, x.count(1));
        Check.due("worlds", 1024, x.worlds());
    }

    private static void otherCounts() {
        Check.promise(44, "NONE for others");
        FoundThings x = new FoundThings();
        for (int what : new int[] {-1, 10, 11, Integer.MIN_VALUE, Integer.MAX_VALUE}) {
            Check.due("count(" + what + ")", -1, x.count(what));
        }
    }

    private static void fullCounts() {
        Check.promise(44, "0 LAWS to 9 bytes of the TAPE");
        FoundThings x = new FoundThings();
        for (int law = 0; law < 3; law++) {
            x.law(0);
        }
        full(x);
        for (int unknown = 0; unknown < 10; unknown++) {
            Check.due("OPEN UNKNOWNS", 10 - unknown, x.count(2));
            x.know(unknown, unknown & 1);
        }
        for (int image = 0; image < 3; image++) {
            x.image();
        }
        for (int i = 0; i < 20; i++) {
            x.feed(0, 0, 0, 0, 0);
        }
        int[] counts = {3, 8, 0, 16, 9999, 8, 24, 40, 3, 400};
        for (int what = 0; what < 10; what++) {
            Check.due("count(" + what + ")", counts[what], x.count(what));
        }
    }
}
