/** The edges of promises 15 to 18: finds, their names, holds and finders. */
public final class FindEdgesTest {
    private FindEdgesTest() {
    }

    public static void main(String[] args) {
        whatIsTold();
        eightFinds();
        whichName();
        plainNames();
        rare();
        own();
        age();
        criedAndClaims();
        holds();
        sixHolds();
        finders();
        Check.end();
    }

    /** The bounds of one thing that is told of a find; each try has an object of its own, since there may be 8 alone. */
    private static void told(String what, int which, int least, int most) {
        Check.bounds(what, least, most, Check.ARGUMENT, number -> {
            int[] all = {0, 0, 1, 0, 0};
            all[which] = number;
            FoundThings x = new FoundThings();
            Check.due("find", 0, x.find(all[0], all[1], all[2], all[3], all[4]));
            Check.due("finds by " + what + " " + number, 1, x.count(5));
        });
    }

    private static void whatIsTold() {
        Check.promise(15, "IllegalArgumentException: what is told of it");
        told("WAY", 0, 0, 5);
        told("PLACE", 1, 0, 3);
        told("WORTH", 2, 1, 9999);
        told("MARKS", 3, 0, 4095);
        told("KEEP", 4, 0, 99);
    }

    private static void eightFinds() {
        Check.promise(15, "a FIND today: its number; -1: there are 8");
        FoundThings x = new FoundThings();
        for (int find = 0; find < 8; find++) {
            Check.fails("not yet " + find, Check.INDEX, () -> x.finders(x.count(5)));
            Check.due("find", find, x.find(find % 6, find % 4, 100 + find, 1 << find, find));
            x.days(1);
        }
        for (int i = 0; i < 2; i++) {
            Check.due("a ninth", -1, x.find(5, 3, 9999, 4095, 99));
            Check.due("there are 8", 8, x.count(5));
        }
        for (int find = 0; find < 8; find++) {
            Check.due("way of " + find, find % 6, x.name(find, 0));
            Check.due("place of " + find, find % 4, x.name(find, 1));
            Check.due("worth of " + find, 100 + find, x.name(find, 2));
            Check.due("marks of " + find, 1, x.name(find, 4));
            Check.due("mark of " + find, find, x.added(find, 0));
            Check.due("age of " + find, 8 - find, x.name(find, 7));
            Check.due("left of " + find, 100 + find - find, x.left(find, find + 1));
        }
        Check.fails("no ninth", Check.INDEX, () -> x.finders(8));
        Check.promise(15, "also on the last day");
        FoundThings y = new FoundThings();
        toLastDay(y);
        Check.due("find", 0, y.find(5, 3, 9999, 4095, 99));
        Check.due("its age", 0, y.name(0, 7));
    }

    private static void toLastDay(FoundThings x) {
        while (x.count(4) < 9999) {
            x.days(Math.min(999, 9999 - x.count(4)));
        }
    }

    private static void whichName() {
        FoundThings x = new FoundThings();
        Check.promise(16, "IndexOutOfBoundsException: no such FIND");
        Check.fails("no find at all", Check.INDEX, () -> x.name(0, 0));
        x.find(0, 0, 1, 0, 0);
        x.find(0, 0, 1, 0, 0);
        Check.bounds("find", 0, 1, Check.INDEX, find -> x.name(find, 0));
        Check.promise(16, "0 way, to 9 claims; IllegalArgumentException: another one");
        Check.bounds("which", 0, 9, Check.ARGUMENT, which -> x.name(1, which));
    }

    private static void plainNames() {
        Check.promise(16, "way, place, worth, walled, marks (how many it has)");
        FoundThings x = new FoundThings();
        x.find(0, 0, 1, 0, 0);
        x.find(5, 3, 9999, 4095, 99);
        x.find(1, 3, 2, 2048, 0);
        x.ground(3, true, -1);
        int[][] due = {{0, 0, 1, 0, 0}, {5, 3, 9999, 1, 12}, {1, 3, 2, 1, 1}};
        for (int find = 0; find < 3; find++) {
            for (int which = 0; which < 5; which++) {
                Check.due("name " + which + " of " + find, due[find][which], x.name(find, which));
            }
        }
    }

    private static void rare() {
        Check.promise(16, "rare: the fewest PERSONS whose things have one MARK of it; 0 without MARKS");
        FoundThings x = new FoundThings();
        x.find(0, 0, 1, 0, 0);
        x.find(0, 0, 1, 2049, 0);
        x.find(0, 0, 1, 1, 0);
        x.find(0, 0, 1, 4095, 0);
        Check.due("without persons", 0, x.name(1, 5));
        for (int person = 0; person < 16; person++) {
            x.person(0, person < 3 ? 2049 : 1);
            Check.due("without marks", 0, x.name(0, 5));
            Check.due("mark 11 is rarer", Math.min(3, person + 1), x.name(1, 5));
            Check.due("mark 0 of all", person + 1, x.name(2, 5));
            Check.due("marks that none has", 0, x.name(3, 5));
        }
    }

    private static void own() {
        Check.promise(16, "own: the hundredths of PERSONS of KIND 0, cut; 0 without");
        FoundThings x = new FoundThings();
        x.find(0, 3, 1, 0, 0);
        Check.due("without persons", 0, x.name(0, 6));
        for (int person = 0; person < 16; person++) {
            x.person(person & 1, 0);
        }
        Check.due("without passes", 0, x.name(0, 6));
        x.passes(1, 3, 1);
        Check.due("none of kind 0", 0, x.name(0, 6));
        x.passes(0, 3, 2);
        Check.due("2 of 3, cut", 66, x.name(0, 6));
        x.passes(2, 3, 97);
        Check.due("99 of 100", 99, x.name(0, 6));
        x.passes(4, 3, 1);
        Check.due("100 of 101, cut", 99, x.name(0, 6));
        x.passes(1, 3, 0);
        Check.due("all", 100, x.name(0, 6));
        x.passes(1, 2, 99);
        Check.due("other places are nothing", 100, x.name(0, 6));
        for (int person = 0; person < 16; person++) {
            x.passes(person, 3, 99);
        }
        Check.due("the most", 50, x.name(0, 6));
        x.passes(15, 3, 0);
        Check.due("all but the 16th's", 800 / 15, x.name(0, 6));
    }

    private static void age() {
        Check.promise(16, "age: DAYS since it was found");
        FoundThings x = new FoundThings();
        x.find(0, 0, 1, 0, 0);
        Check.due("today", 0, x.name(0, 7));
        x.days(1);
        x.find(0, 0, 1, 0, 0);
        Check.due("yesterday", 1, x.name(0, 7));
        Check.due("today", 0, x.name(1, 7));
        toLastDay(x);
        Check.due("the oldest", 9999, x.name(0, 7));
        Check.due("the other", 9998, x.name(1, 7));
    }

    private static void criedAndClaims() {
        Check.promise(16, "cried (DAYS on which it was)");
        FoundThings x = new FoundThings();
        x.person(0, 0);
        x.find(0, 0, 1, 0, 0);
        x.find(0, 0, 1, 0, 0);
        for (int day = 0; day < 30; day++) {
            Check.due("never on this day", day, x.name(0, 8));
            x.cry(0);
            x.cry(0);
            x.days(1 + day % 2);
        }
        Check.due("the other never", 0, x.name(1, 8));
        Check.promise(16, "claims (how many there are of it)");
        for (int claim = 0; claim < 24; claim++) {
            Check.due("claims", claim, x.name(1, 9));
            x.claim(1, 0, 1);
        }
        x.claim(1, 0, 1);
        Check.due("at most 24", 24, x.name(1, 9));
        Check.due("none of the other", 0, x.name(0, 9));
    }

    private static void holds() {
        FoundThings x = new FoundThings();
        Check.promise(17, "IndexOutOfBoundsException: no such FIND");
        x.person(0, 0);
        x.person(0, 0);
        Check.fails("no find at all", Check.INDEX, () -> x.hold(0, 0, 0, 0));
        x.find(0, 0, 1, 0, 0);
        x.find(0, 0, 1, 0, 0);
        Check.bounds("find", 0, 1, Check.INDEX, find -> x.hold(find, 0, 0, 0));
        Check.promise(17, "NoSuchElementException: no such PERSON");
        Check.bounds("person", 0, 1, Check.ELEMENT, person -> x.hold(0, person, 0, 0));
        Check.promise(17, "IllegalArgumentException: HOW, or the TIME");
        Check.bounds("how", 0, 2, Check.ARGUMENT, how -> x.hold(1, 0, how, 0));
        Check.bounds("time", 0, 999, Check.ARGUMENT, time -> x.hold(1, 0, 0, time));
        Check.promise(17, "how many the FIND has");
        Check.due("refused ones are not counted", 4, x.hold(0, 0, 0, 0));
        Check.due("nor here", 6, x.hold(1, 0, 0, 0));
    }

    private static void sixHolds() {
        Check.promise(17, "-1: there are 6");
        FoundThings x = new FoundThings();
        x.person(0, 0);
        x.person(0, 0);
        x.find(0, 0, 1, 0, 0);
        x.find(0, 0, 1, 0, 0);
        for (int hold = 1; hold <= 6; hold++) {
            Check.due("hold", hold, x.hold(0, 0, 1, hold));
        }
        for (int i = 0; i < 2; i++) {
            Check.due("a seventh", -1, x.hold(0, 1, 2, 0));
            Check.due("it is none", 1, x.finders(0));
        }
        Check.due("the other find has its own six", 1, x.hold(1, 1, 0, 0));
        Check.due("by another", 2, x.finders(1));
    }

    private static void finders() {
        FoundThings x = new FoundThings();
        for (int person = 0; person < 16; person++) {
            x.person(0, 0);
        }
        Check.promise(18, "IndexOutOfBoundsException: no such FIND");
        Check.fails("no find at all", Check.INDEX, () -> x.finders(0));
        for (int find = 0; find < 8; find++) {
            x.find(0, 0, 1, 0, 0);
        }
        Check.bounds("find", 0, 7, Check.INDEX, x::finders);
        Check.promise(18, "FINDERS, as bits");
        Check.due("none", 0, x.finders(7));
        x.hold(7, 15, 0, 999);
        Check.due("the 16th", 32768, x.finders(7));
        x.hold(7, 0, 0, 999);
        Check.due("two at the same time", 32769, x.finders(7));
        x.hold(7, 0, 0, 998);
        Check.due("one of them earlier", 1, x.finders(7));
        x.hold(7, 3, 0, 999);
        Check.due("a later one is nothing", 1, x.finders(7));
        Check.promise(18, "of those of the greatest HOW the ones of the least TIME");
        x.hold(7, 4, 1, 999);
        Check.due("HOW goes ahead of TIME", 16, x.finders(7));
        x.hold(7, 5, 2, 999);
        Check.due("and so again", 32, x.finders(7));
        for (int hold = 0; hold < 6; hold++) {
            x.hold(6, hold, 2, 0);
        }
        Check.due("six at once", 63, x.finders(6));
        x.hold(5, 1, 2, 5);
        x.hold(5, 2, 1, 0);
        Check.due("lesser HOW behind", 2, x.finders(5));
        x.hold(5, 3, 0, 0);
        Check.due("and the least", 2, x.finders(5));
        x.hold(5, 1, 2, 5);
        Check.due("one twice, lesser HOW between", 2, x.finders(5));
        x.hold(5, 9, 2, 0);
        Check.due("the TIME 0", 512, x.finders(5));
        Check.due("other finds have none", 0, x.finders(4));
    }
}
