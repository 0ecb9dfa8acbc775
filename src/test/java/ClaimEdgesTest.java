/** The edges of promises 27 to 30: claims, what is known of them, the best one, the mark to add. */
public final class ClaimEdgesTest {
    private ClaimEdgesTest() {
    }

    public static void main(String[] args) {
        claims();
        twentyFour();
        claimedBounds();
        fits();
        have();
        proven();
        best();
        bestOfMany();
        addedBounds();
        added();
        Check.end();
    }

    private static void claims() {
        FoundThings x = new FoundThings();
        Check.promise(27, "IndexOutOfBoundsException: no such FIND");
        x.person(0, 0);
        x.person(0, 0);
        Check.fails("no find at all", Check.INDEX, () -> x.claim(0, 0, 1));
        x.find(0, 0, 1, 0, 0);
        x.find(0, 0, 1, 0, 0);
        Check.bounds("find", 0, 1, Check.INDEX, find -> x.claim(find, 0, 1));
        Check.promise(27, "NoSuchElementException: no such PERSON");
        Check.bounds("person", 0, 1, Check.ELEMENT, person -> x.claim(0, person, 1));
        Check.promise(27, "IllegalArgumentException: MARKS (1 to 4,095)");
        Check.bounds("marks", 1, 4095, Check.ARGUMENT, marks -> x.claim(1, 1, marks));
        Check.promise(27, "its number");
        Check.due("refused ones are none", 6, x.count(6));
        Check.due("the next one", 6, x.claim(1, 0, 2048));
        Check.dueAll("the two before", new int[] {1, 1, 1, 1, 1, 4095}, x.claimed(4, 0), x.claimed(4, 1), x.claimed(4, 2),
            x.claimed(5, 0), x.claimed(5, 1), x.claimed(5, 2));
    }

    private static void twentyFour() {
        Check.promise(27, "-1: there are 24");
        FoundThings x = new FoundThings();
        for (int i = 0; i < 8; i++) {
            x.person(0, 4095);
            x.find(0, 0, 1, 4095, 0);
        }
        for (int claim = 0; claim < 24; claim++) {
            Check.fails("not yet " + claim, Check.INDEX, () -> x.claimed(x.count(6), 0));
            Check.due("claim", claim, x.claim(claim % 8, claim % 5, claim + 1));
        }
        for (int i = 0; i < 2; i++) {
            Check.due("a 25th", -1, x.claim(0, 7, 4095));
            Check.due("there are 24", 24, x.count(6));
            Check.due("three of the find", 3, x.name(0, 9));
        }
        for (int claim = 0; claim < 24; claim++) {
            Check.dueAll("claim " + claim, new int[] {claim % 8, claim % 5, claim + 1},
                x.claimed(claim, 0), x.claimed(claim, 1), x.claimed(claim, 2));
        }
        Check.promise(28, "IndexOutOfBoundsException: no such CLAIM");
        Check.bounds("claim", 0, 23, Check.INDEX, claim -> x.claimed(claim, 5));
    }

    private static void claimedBounds() {
        FoundThings x = new FoundThings();
        Check.promise(28, "IndexOutOfBoundsException: no such CLAIM");
        Check.fails("no claim at all", Check.INDEX, () -> x.claimed(0, 0));
        x.person(0, 1);
        x.find(0, 0, 1, 1, 0);
        x.claim(0, 0, 1);
        Check.bounds("claim", 0, 0, Check.INDEX, claim -> x.claimed(claim, 0));
        Check.promise(28, "IllegalArgumentException: another what");
        Check.bounds("what", 0, 5, Check.ARGUMENT, what -> x.claimed(0, what));
    }

    private static void fits() {
        Check.promise(28, "it FITS, if the FIND has all of these, and the things of the PERSON, too");
        FoundThings x = new FoundThings();
        x.person(0, 0b100000000011);
        x.find(0, 0, 1, 0b100000000101, 0);
        int[] marks = {1, 2, 4, 8, 2048, 2049, 2051, 2053, 4095};
        int[] due = {1, 0, 0, 0, 1, 1, 0, 0, 0};
        for (int claim = 0; claim < marks.length; claim++) {
            x.claim(0, 0, marks[claim]);
            Check.due("marks " + marks[claim], due[claim], x.claimed(claim, 3));
        }
        FoundThings y = new FoundThings();
        y.person(1, 4095);
        y.find(0, 0, 1, 4095, 0);
        y.claim(0, 0, 4095);
        Check.due("all twelve", 1, y.claimed(0, 3));
        y.find(0, 0, 1, 0, 0);
        y.claim(1, 0, 1);
        Check.due("a find without marks", 0, y.claimed(1, 3));
        for (int find = 2; find < 8; find++) {
            y.find(0, 0, 1, 1 << find, 0);
        }
        for (int person = 1; person < 16; person++) {
            y.person(0, 1 << person % 12);
        }
        y.claim(7, 7, 128);
        y.claim(7, 15, 128);
        y.claim(7, 15, 8);
        Check.dueAll("the last find", new int[] {1, 0, 0}, y.claimed(2, 3), y.claimed(3, 3), y.claimed(4, 3));
        y.claim(3, 15, 8);
        Check.due("the last person", 1, y.claimed(5, 3));
    }

    private static void have() {
        Check.promise(28, "HAVE: how many PERSONS have things with all MARKS told");
        FoundThings x = new FoundThings();
        x.find(0, 0, 1, 3, 0);
        x.person(0, 0);
        x.claim(0, 0, 1);
        x.claim(0, 0, 3);
        Check.due("none has", 0, x.claimed(0, 4));
        for (int person = 1; person < 16; person++) {
            x.person(0, 1 + 2 * (person & 1));
            Check.due("mark 0", person, x.claimed(0, 4));
            Check.due("both marks", (person + 1) / 2, x.claimed(1, 4));
        }
        Check.promise(28, "HAVE of all 16");
        FoundThings y = new FoundThings();
        y.find(0, 0, 1, 0, 0);
        for (int person = 0; person < 16; person++) {
            y.person(0, 4095);
        }
        y.claim(0, 0, 4095);
        Check.due("all of them", 16, y.claimed(0, 4));
    }

    private static void proven() {
        Check.promise(28, "PROVEN is a CLAIM that FITS, of HAVE 1");
        FoundThings x = new FoundThings();
        x.person(0, 1);
        x.person(0, 0);
        x.find(0, 0, 1, 1, 0);
        x.find(0, 0, 1, 2, 0);
        x.claim(0, 0, 1);
        x.claim(0, 1, 1);
        x.claim(1, 0, 1);
        x.claim(0, 0, 4);
        Check.due("fits, and one has", 1, x.claimed(0, 5));
        Check.due("one has, but another one claims", 0, x.claimed(1, 5));
        Check.due("one has, but not the find", 0, x.claimed(2, 5));
        Check.due("none has", 0, x.claimed(3, 5));
        x.person(1, 3);
        Check.due("two have", 0, x.claimed(0, 5));
        Check.due("it fits still", 1, x.claimed(0, 3));
    }

    private static void best() {
        FoundThings x = new FoundThings();
        Check.promise(29, "IndexOutOfBoundsException: no such FIND");
        Check.fails("no find at all", Check.INDEX, () -> x.best(0));
        for (int find = 0; find < 8; find++) {
            x.find(0, 0, 1, 7, 0);
        }
        Check.bounds("find", 0, 7, Check.INDEX, x::best);
        Check.promise(29, "NONE: no CLAIM FITS");
        x.person(0, 3);
        x.person(0, 7);
        Check.due("no claim", -1, x.best(0));
        x.claim(0, 0, 4);
        x.claim(0, 1, 8);
        Check.due("none that fits", -1, x.best(0));
        Check.promise(29, "if all of these are of one PERSON: that PERSON; -2: DISPUTED");
        x.claim(0, 1, 1);
        Check.due("the only one", 1, x.best(0));
        x.claim(0, 1, 2);
        Check.due("the same again", 1, x.best(0));
        x.claim(0, 0, 3);
        Check.due("another one of as few", -2, x.best(0));
        x.claim(0, 1, 3);
        Check.due("not by telling it again", -2, x.best(0));
        Check.promise(29, "of CLAIMS that FIT those of the fewest HAVE");
        x.claim(0, 1, 7);
        Check.due("fewer have", 1, x.best(0));
        x.claim(0, 0, 1);
        Check.due("a later one that more have is nothing", 1, x.best(0));
        x.person(0, 7);
        Check.due("two have them, which are the fewest still", 1, x.best(0));
        x.claim(0, 2, 7);
        Check.due("and both claim", -2, x.best(0));
        Check.due("another find", -1, x.best(7));
    }

    private static void bestOfMany() {
        Check.promise(29, "also the 16th PERSON, and claims of which all HAVE");
        FoundThings x = new FoundThings();
        x.find(0, 0, 1, 1, 0);
        x.find(0, 0, 1, 1, 0);
        for (int person = 0; person < 16; person++) {
            x.person(0, 1);
        }
        x.claim(0, 15, 1);
        Check.due("the 16th", 15, x.best(0));
        for (int claim = 1; claim < 23; claim++) {
            x.claim(0, 15, 1);
        }
        Check.due("by 23 claims", 15, x.best(0));
        x.claim(0, 0, 1);
        Check.due("and a last one by another", -2, x.best(0));
        Check.due("none of the other find", -1, x.best(1));
    }

    private static void addedBounds() {
        FoundThings x = new FoundThings();
        Check.promise(30, "IndexOutOfBoundsException: no such FIND");
        Check.fails("no find at all", Check.INDEX, () -> x.added(0, 0));
        x.find(0, 0, 1, 4095, 0);
        x.find(0, 0, 1, 0, 0);
        Check.bounds("find", 0, 1, Check.INDEX, find -> x.added(find, 0));
        Check.promise(30, "to MARKS (0 to 4,095) told");
        Check.bounds("marks", 0, 4095, Check.ARGUMENT, marks -> x.added(0, marks));
        Check.promise(30, "NONE: it has none that is not told");
        Check.due("no marks", -1, x.added(1, 0));
        Check.due("no marks, others told", -1, x.added(1, 4095));
        Check.due("all told", -1, x.added(0, 4095));
        for (int mark = 0; mark < 12; mark++) {
            Check.due("all but " + mark, mark, x.added(0, 4095 - (1 << mark)));
        }
    }

    private static void added() {
        Check.promise(30, "leaves the fewest PERSONS that HAVE (the least one)");
        FoundThings x = new FoundThings();
        x.find(0, 0, 1, 0b100000001110, 0);
        Check.due("without persons", 1, x.added(0, 0));
        x.person(0, 0b000000001110);
        Check.due("a mark that none has", 11, x.added(0, 0));
        x.person(0, 0b100000001010);
        Check.due("the least of two", 2, x.added(0, 0));
        x.person(0, 0b100000000110);
        Check.due("the least of three", 2, x.added(0, 0));
        Check.due("told besides", 3, x.added(0, 0b100));
        Check.due("told besides", 2, x.added(0, 0b1000));
        Check.due("told besides what the find has not", 1, x.added(0, 1));
        for (int person = 3; person < 16; person++) {
            x.person(0, 4095);
        }
        Check.due("besides mark 1", 2, x.added(0, 2));
        FoundThings y = new FoundThings();
        y.find(0, 0, 1, 0b11, 0);
        for (int person = 0; person < 16; person++) {
            y.person(0, 4095);
        }
        Check.due("all have all", 0, y.added(0, 0));
        Check.due("all have all", 1, y.added(0, 1));
    }
}
