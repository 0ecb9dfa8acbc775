/**
 * What the document leaves open, and what this class does there. NOTES.md says why. If a fault is told that shows
 * another reading to be meant, the test here is changed with the class; no promise of the document is tested here.
 */
public final class OpenReadingsTest {
    private OpenReadingsTest() {
    }

    public static void main(String[] args) {
        faultsWhereAllIsFull();
        faultBehindAnException();
        wordsAtTheEnd();
        imagesAndTape();
        fullAheadOfNotHaving();
        orderOfExceptions();
        exceptionsAheadOfFull();
        Check.end();
    }

    private static void faultsWhereAllIsFull() {
        Check.promise(3, "a text with a fault, when there are 3");
        FoundThings x = new FoundThings();
        for (int i = 0; i < 3; i++) {
            Check.law(x, "crown;");
        }
        Check.law(x, "x");
        Check.due("there are 3", -1, Check.law(x, "crown x"));
        Check.due("the text is not read", -1, x.fault());
        Check.due("the tape is empty then", 0, x.count(9));
        Check.promise(4, "a text with a fault, when there are 8");
        for (int i = 0; i < 8; i++) {
            Check.holds(x, "u0;");
        }
        Check.due("there are 8", -1, Check.holds(x, "u0 x"));
        Check.due("the text is not read", -1, x.fault());
        Check.due("the tape is empty then", 0, x.count(9));
    }

    private static void faultBehindAnException() {
        Check.promise(5, "the latest law() or holds() that did not throw");
        FoundThings x = new FoundThings();
        Check.law(x, "crown x");
        Check.fails("law(1)", Check.ARGUMENT, () -> x.law(1));
        Check.due("the one before", 6, x.fault());
        Check.fails("holds(-1)", Check.ARGUMENT, () -> x.holds(-1));
        Check.due("the one before", 6, x.fault());
    }

    /** A word that is cut off by the end can't stand there; the text does not end too early. */
    private static void wordsAtTheEnd() {
        Check.promise(3, "a word that is none, at the end of the text");
        String[] texts = {"crow", "crown i", "crown if u", "crown if u1 an", "crown if no", "crown cr", "crown if wa"};
        int[] places = {0, 6, 9, 12, 9, 6, 9};
        for (int i = 0; i < texts.length; i++) {
            FoundThings x = new FoundThings();
            Check.due("law " + texts[i], -9, Check.law(x, texts[i]));
            Check.due("at its first byte", places[i], x.fault());
        }
    }

    private static void imagesAndTape() {
        Check.promise(43, "the TAPE and the FAULT's place are not told, so that no IMAGE keeps them");
        FoundThings x = new FoundThings();
        x.feed(0, 0, 0, 0, 0);
        x.image();
        Check.due("a law, by which the tape is empty", 0, x.law(0));
        Check.due("a fault", -9, Check.law(x, "  x"));
        Check.feed(x, "crown;" + " ".repeat(20));
        Check.due("restored", 0, x.restore());
        Check.due("the tape stays", 40, x.count(9));
        Check.due("the fault stays", 2, x.fault());
        Check.due("what is on the tape stays", 1, x.law(26));
    }

    private static void fullAheadOfNotHaving() {
        Check.promise(36, "there are 40, and the one who passes it on does not have it");
        FoundThings x = new FoundThings();
        x.person(0, 0);
        x.person(0, 0);
        x.find(0, 0, 1, 0, 0);
        x.hold(0, 0, 0, 0);
        for (int i = 0; i < 40; i++) {
            x.pass(0, i % 2, 1 - i % 2, 1);
        }
        Check.due("who does not have it", -1, x.pass(0, 1, 0, 1));
        Check.due("both are one", -1, x.pass(0, 0, 0, 1));
    }

    private static void orderOfExceptions() {
        Check.promise(36, "several exceptions: in the order of the throws clause");
        FoundThings x = new FoundThings();
        x.person(0, 0);
        x.find(0, 0, 1, 0, 0);
        Check.law(x, "crown;");
        Check.fails("know", Check.INDEX, () -> x.know(10, 3));
        Check.fails("weigh", Check.INDEX, () -> x.weigh(10, 0));
        Check.fails("passes", Check.ELEMENT, () -> x.passes(1, 4, 100));
        Check.fails("ground", Check.ARGUMENT, () -> x.ground(4, true, 1));
        Check.fails("name", Check.INDEX, () -> x.name(1, 10));
        Check.fails("hold", Check.INDEX, () -> x.hold(1, 1, 3, 1000));
        Check.fails("hold", Check.ELEMENT, () -> x.hold(0, 1, 3, 1000));
        Check.fails("whose", Check.INDEX, () -> x.whose(1, 1, 1024, 3));
        Check.fails("part", Check.INDEX, () -> x.part(1, 1, 5));
        Check.fails("claim", Check.INDEX, () -> x.claim(1, 1, 0));
        Check.fails("claim", Check.ELEMENT, () -> x.claim(0, 1, 0));
        Check.fails("claimed", Check.INDEX, () -> x.claimed(0, 6));
        Check.fails("added", Check.INDEX, () -> x.added(1, 4096));
        Check.fails("left", Check.INDEX, () -> x.left(1, -1));
        Check.fails("pass", Check.INDEX, () -> x.pass(1, 1, 1, 10000));
        Check.fails("pass", Check.ELEMENT, () -> x.pass(0, 0, 1, 10000));
        Check.fails("loss", Check.INDEX, () -> x.loss(1, 1));
        for (int i = 0; i < 10; i++) {
            x.days(999);
        }
        Check.fails("days", Check.ARGUMENT, () -> x.days(1000));
    }

    private static void exceptionsAheadOfFull() {
        Check.promise(11, "what is refused by an exception goes ahead of what is full");
        FoundThings x = new FoundThings();
        for (int i = 0; i < 16; i++) {
            x.person(0, 1);
        }
        for (int i = 0; i < 8; i++) {
            x.find(0, 0, 1, 1, 0);
        }
        for (int i = 0; i < 6; i++) {
            x.hold(0, 0, 0, 0);
        }
        for (int i = 0; i < 24; i++) {
            x.claim(0, 0, 1);
        }
        Check.fails("person", Check.ARGUMENT, () -> x.person(2, 0));
        Check.fails("find", Check.ARGUMENT, () -> x.find(0, 0, 0, 0, 0));
        Check.fails("hold", Check.ARGUMENT, () -> x.hold(0, 0, 3, 0));
        Check.fails("claim", Check.ARGUMENT, () -> x.claim(0, 0, 0));
        Check.fails("pass", Check.ARGUMENT, () -> x.pass(0, 1, 2, 10000));
    }
}
