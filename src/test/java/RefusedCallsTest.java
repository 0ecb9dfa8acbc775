import java.util.ArrayList;
import java.util.List;

/**
 * A call that is refused, or that only asks, leaves all as it was. Two objects are told the same; one of them gets
 * the call besides; then all that can be seen of both is the same.
 */
public final class RefusedCallsTest {
    private interface Teller {
        void tell(FoundThings x);
    }

    private interface Call {
        Object make(FoundThings x);
    }

    private static final String INDEX = "IndexOutOfBoundsException";
    private static final String ARGUMENT = "IllegalArgumentException";
    private static final String ELEMENT = "NoSuchElementException";
    private static final String STATE = "IllegalStateException";
    private static final int NO = Integer.MAX_VALUE;

    private final Teller teller;

    private RefusedCallsTest(Teller teller) {
        this.teller = teller;
    }

    public static void main(String[] args) {
        RefusedCallsTest some = new RefusedCallsTest(RefusedCallsTest::tellSome);
        some.texts();
        some.persons();
        some.finds();
        some.claims();
        some.passing();
        some.laws();
        some.asking();
        RefusedCallsTest full = new RefusedCallsTest(RefusedCallsTest::tellAll);
        full.whereAllIsFull();
        RefusedCallsTest fullTape = new RefusedCallsTest(x -> {
            for (int i = 0; i < 20; i++) {
                x.feed(0x63726f77 + i, 0x6e3b2020, i, -i, i);
            }
        });
        fullTape.refused(2, "feed", -1, x -> x.feed(1, 2, 3, 4, 5));
        new RefusedCallsTest(RefusedCallsTest::tellFaults).faults();
        Check.end();
    }

    // ---- the objects

    private static void tellSome(FoundThings x) {
        Check.law(x, "finder cry 3 if u0 and walled=1;crown if u1 or worth>50;halves;");
        Check.law(x, "ground cry 2 if not u0;");
        Check.holds(x, "u0 or u1 or u2;");
        x.know(3, 1);
        x.know(4, 0);
        x.weigh(5, 8);
        for (int person = 0; person < 4; person++) {
            x.person(person & 1, 7 >> person);
            x.passes(person, person, 10 + person);
        }
        x.away(1, true);
        x.ground(1, true, 2);
        x.days(7);
        for (int find = 0; find < 3; find++) {
            x.find(find, find, 50 * find + 1, 7, find);
            x.hold(find, find, 1, 10);
            x.claim(find, find, 1 << find);
        }
        x.pass(0, 0, 1, 20);
        x.pass(0, 1, 2, 30);
        x.cry(1);
        x.image();
        x.days(2);
        x.pass(0, 2, 3, 40);
        x.person(1, 1);
        x.cry(2);
        Check.holds(x, "u0 and");
        Check.feed(x, "owner if");
    }

    private static void tellAll(FoundThings x) {
        for (int law = 0; law < 3; law++) {
            Check.law(x, "crown if u" + law + ";");
        }
        for (int i = 0; i < 8; i++) {
            Check.holds(x, "u9;");
            x.find(i % 6, i % 4, 100 + i, 1 << i, i);
        }
        for (int i = 0; i < 16; i++) {
            x.person(i & 1, 255);
        }
        for (int i = 0; i < 6; i++) {
            x.hold(0, 0, 1, 5);
        }
        for (int i = 0; i < 24; i++) {
            x.claim(i % 8, i % 16, 1 << i % 8);
        }
        for (int i = 0; i < 40; i++) {
            x.pass(0, i % 16, (i + 1) % 16, i);
        }
        for (int i = 0; i < 11; i++) {
            x.days(i < 10 ? 999 : 9);
        }
        for (int i = 0; i < 3; i++) {
            x.image();
        }
    }

    private static void tellFaults(FoundThings x) {
        Check.law(x, "crown if u0;");
        Check.holds(x, "u1;");
        x.find(0, 0, 1, 0, 0);
        Check.law(x, "x");
    }

    // ---- what is compared

    private void same(int promise, String what, Object due, Call call) {
        for (int half = 0; half < 2; half++) {
            FoundThings x = new FoundThings();
            FoundThings y = new FoundThings();
            teller.tell(x);
            teller.tell(y);
            Check.promise(promise, what);
            if (due != null) {
                Check.due("it answers " + due, 1, answer(call, x).equals(due.toString()) ? 1 : 0);
            } else {
                answer(call, x);
            }
            compare(half == 0 ? Seen.byAsking(x) : Seen.byTelling(x), half == 0 ? Seen.byAsking(y) : Seen.byTelling(y));
        }
    }

    private static void compare(List<String> got, List<String> want) {
        Check.due("how much can be seen", want.size(), got.size());
        List<String> others = new ArrayList<>();
        for (int i = 0; i < want.size() && i < got.size(); i++) {
            if (!want.get(i).equals(got.get(i))) {
                others.add(got.get(i) + ", it was " + want.get(i));
            }
        }
        Check.due("what is another one then " + others, 0, others.size());
    }

    private static String answer(Call call, FoundThings x) {
        try {
            return call.make(x).toString();
        } catch (RuntimeException e) {
            return e.getClass().getSimpleName();
        }
    }

    private void refused(int promise, String what, Object due, Call call) {
        same(promise, what + " is refused and leaves all as it was", due, call);
    }

    // ---- the calls

    private void texts() {
        refused(3, "law(-1)", ARGUMENT, x -> x.law(-1));
        refused(3, "law(21)", ARGUMENT, x -> x.law(21));
        refused(4, "holds(-1)", ARGUMENT, x -> x.holds(-1));
        refused(4, "holds(21)", ARGUMENT, x -> x.holds(21));
        refused(6, "know", INDEX, x -> x.know(10, 0));
        refused(6, "know", INDEX, x -> x.know(-1, 0));
        refused(6, "know", ARGUMENT, x -> x.know(3, 3));
        refused(6, "know", ARGUMENT, x -> x.know(3, -1));
        refused(7, "weigh", INDEX, x -> x.weigh(10, 1));
        refused(7, "weigh", INDEX, x -> x.weigh(-1, 1));
        refused(7, "weigh", ARGUMENT, x -> x.weigh(5, 0));
        refused(7, "weigh", ARGUMENT, x -> x.weigh(5, 10));
    }

    private void persons() {
        refused(11, "person", ARGUMENT, x -> x.person(2, 1));
        refused(11, "person", ARGUMENT, x -> x.person(-1, 1));
        refused(11, "person", ARGUMENT, x -> x.person(0, 4096));
        refused(11, "person", ARGUMENT, x -> x.person(0, -1));
        refused(12, "passes", ELEMENT, x -> x.passes(5, 0, 1));
        refused(12, "passes", ELEMENT, x -> x.passes(-1, 0, 1));
        refused(12, "passes", ARGUMENT, x -> x.passes(0, 4, 1));
        refused(12, "passes", ARGUMENT, x -> x.passes(0, -1, 1));
        refused(12, "passes", ARGUMENT, x -> x.passes(0, 0, 100));
        refused(12, "passes", ARGUMENT, x -> x.passes(0, 0, -1));
        refused(13, "ground", ARGUMENT, x -> x.ground(4, true, 0));
        refused(13, "ground", ARGUMENT, x -> x.ground(-1, true, 0));
        refused(13, "ground", ELEMENT, x -> x.ground(1, false, 5));
        refused(13, "ground", ELEMENT, x -> x.ground(1, false, -2));
        refused(13, "ground", ELEMENT, x -> x.ground(0, true, 5));
        refused(14, "days", ARGUMENT, x -> x.days(-1));
        refused(14, "days", ARGUMENT, x -> x.days(1000));
        refused(38, "away", ELEMENT, x -> x.away(5, true));
        refused(38, "away", ELEMENT, x -> x.away(-1, true));
    }

    private void finds() {
        refused(15, "find", ARGUMENT, x -> x.find(6, 0, 1, 0, 0));
        refused(15, "find", ARGUMENT, x -> x.find(0, 4, 1, 0, 0));
        refused(15, "find", ARGUMENT, x -> x.find(0, 0, 0, 0, 0));
        refused(15, "find", ARGUMENT, x -> x.find(0, 0, 10000, 0, 0));
        refused(15, "find", ARGUMENT, x -> x.find(0, 0, 1, 4096, 0));
        refused(15, "find", ARGUMENT, x -> x.find(0, 0, 1, 0, 100));
        refused(16, "name", INDEX, x -> x.name(3, 0));
        refused(16, "name", ARGUMENT, x -> x.name(0, 10));
        refused(17, "hold", INDEX, x -> x.hold(3, 0, 2, 0));
        refused(17, "hold", ELEMENT, x -> x.hold(0, 5, 2, 0));
        refused(17, "hold", ARGUMENT, x -> x.hold(0, 0, 3, 0));
        refused(17, "hold", ARGUMENT, x -> x.hold(0, 0, -1, 0));
        refused(17, "hold", ARGUMENT, x -> x.hold(0, 0, 2, 1000));
        refused(17, "hold", ARGUMENT, x -> x.hold(0, 0, 2, -1));
        refused(18, "finders", INDEX, x -> x.finders(3));
        refused(31, "cry", INDEX, x -> x.cry(3));
        refused(31, "cry", INDEX, x -> x.cry(-1));
        refused(31, "crying again on the same day", 0, x -> x.cry(2));
        refused(33, "left", INDEX, x -> x.left(3, 9));
        refused(33, "left", ARGUMENT, x -> x.left(0, 6));
        refused(34, "gone", INDEX, x -> x.gone(3));
    }

    private void claims() {
        refused(27, "claim", INDEX, x -> x.claim(3, 0, 1));
        refused(27, "claim", ELEMENT, x -> x.claim(0, 5, 1));
        refused(27, "claim", ARGUMENT, x -> x.claim(0, 0, 0));
        refused(27, "claim", ARGUMENT, x -> x.claim(0, 0, 4096));
        refused(28, "claimed", INDEX, x -> x.claimed(3, 0));
        refused(28, "claimed", ARGUMENT, x -> x.claimed(0, 6));
        refused(29, "best", INDEX, x -> x.best(3));
        refused(30, "added", INDEX, x -> x.added(3, 0));
        refused(30, "added", ARGUMENT, x -> x.added(0, 4096));
    }

    private void passing() {
        refused(36, "pass", INDEX, x -> x.pass(3, 3, 0, 1));
        refused(36, "pass", ELEMENT, x -> x.pass(0, 5, 0, 1));
        refused(36, "pass", ELEMENT, x -> x.pass(0, 3, 5, 1));
        refused(36, "pass", ELEMENT, x -> x.pass(0, 3, -1, 1));
        refused(36, "pass", ARGUMENT, x -> x.pass(0, 3, 0, 10000));
        refused(36, "pass", ARGUMENT, x -> x.pass(0, 3, 0, -1));
        refused(36, "pass by another one", -2, x -> x.pass(0, 0, 1, 1));
        refused(36, "pass to oneself", -2, x -> x.pass(0, 3, 3, 1));
        refused(36, "pass of what nobody passed on yet", -2, x -> x.pass(1, 0, 3, 1));
        refused(37, "has", INDEX, x -> x.has(3));
        refused(39, "loss", INDEX, x -> x.loss(3, 0));
        refused(39, "loss", ELEMENT, x -> x.loss(0, 5));
    }

    private void laws() {
        refused(19, "whose", INDEX, x -> x.whose(3, 0, 0, 0));
        refused(19, "whose", ARGUMENT, x -> x.whose(0, 2, 0, 0));
        refused(19, "whose", ARGUMENT, x -> x.whose(0, 0, 1024, 0));
        refused(19, "whose", ARGUMENT, x -> x.whose(0, 0, 0, 3));
        refused(20, "sure", ARGUMENT, x -> x.sure(0, 2));
        refused(21, "may", INDEX, x -> x.may(3, 0));
        refused(22, "part", ARGUMENT, x -> x.part(0, 0, 5));
        refused(23, "hangs", INDEX, x -> x.hangs(3, 0));
        refused(24, "settles", ARGUMENT, x -> x.settles(0, 2));
        refused(25, "questions", INDEX, x -> x.questions(3, 0));
        refused(26, "ask", ARGUMENT, x -> x.ask(0, 2));
        refused(32, "due", ARGUMENT, x -> x.due(0, 2));
        refused(35, "late", INDEX, x -> x.late(3, 0));
        refused(40, "beside", ARGUMENT, x -> x.beside(0, 2));
        refused(41, "least", ARGUMENT, x -> x.least(0, 1, 3));
    }

    private void asked(int promise, Call call) {
        same(promise, "asking leaves all as it was", null, call);
    }

    private void asking() {
        asked(5, FoundThings::fault);
        asked(8, FoundThings::worlds);
        asked(9, x -> x.world(3));
        asked(9, x -> x.world(NO));
        asked(10, FoundThings::all);
        asked(16, x -> x.name(0, 5));
        asked(18, x -> x.finders(0));
        asked(19, x -> x.whose(0, 0, 1023, 1));
        asked(20, x -> x.sure(0, 0));
        asked(21, x -> x.may(0, 0));
        asked(22, x -> x.part(0, 0, 1));
        asked(23, x -> x.hangs(0, 0));
        asked(24, x -> x.settles(0, 0));
        asked(25, x -> x.questions(0, 0));
        asked(26, x -> x.ask(0, 0));
        asked(28, x -> x.claimed(0, 5));
        asked(29, x -> x.best(0));
        asked(30, x -> x.added(0, 0));
        asked(32, x -> x.due(0, 0));
        asked(33, x -> x.left(0, 9999));
        asked(34, x -> x.gone(0));
        asked(35, x -> x.late(0, 0));
        asked(37, x -> x.has(0));
        asked(39, x -> x.loss(0, 0));
        asked(40, x -> x.beside(0, 1));
        asked(41, x -> x.least(0, 1, 2));
        asked(44, x -> x.count(0));
        asked(44, x -> x.count(NO));
    }

    private void whereAllIsFull() {
        refused(3, "a fourth law", -1, x -> x.law(0));
        refused(4, "a ninth condition", -1, x -> x.holds(0));
        refused(11, "a 17th person", -1, x -> x.person(0, 1));
        refused(14, "a day behind the last", STATE, x -> x.days(1));
        refused(15, "a ninth find", -1, x -> x.find(0, 0, 1, 1, 1));
        refused(17, "a seventh hold", -1, x -> x.hold(0, 0, 2, 0));
        refused(27, "a 25th claim", -1, x -> x.claim(0, 0, 1));
        refused(36, "a 41st passing on", -1, x -> x.pass(0, 8, 0, 1));
        refused(42, "a fourth image", -1, FoundThings::image);
    }

    /** A text with a fault changes the tape and the fault's place alone, which another text then makes the same. */
    private void faults() {
        String[] texts = {"finder;x", "finder cry 10000;", "crown;".repeat(13), "u2 and u3 u4;", "not u1; u2;", "u2 and (((((((1"};
        for (int i = 0; i < texts.length; i++) {
            String text = texts[i];
            boolean law = i < 3;
            refused(law ? 3 : 4, "a text with a fault", -9, x -> {
                int first = law ? Check.law(x, text) : Check.holds(x, text);
                Check.due("a fault", 1, first <= -7 && first >= -9 ? 1 : 0);
                return Check.law(x, "x");
            });
        }
        refused(43, "a restore without images", -1, FoundThings::restore);
    }
}
