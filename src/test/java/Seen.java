import java.util.ArrayList;
import java.util.List;

/** All that can be seen of an object, in two halves, so that one object is never asked for more than 512 calls. */
final class Seen {
    private final FoundThings x;
    private final List<String> answers = new ArrayList<>();

    private Seen(FoundThings x) {
        this.x = x;
    }

    private void see(String what, Object answer) {
        answers.add(what + " -> " + answer);
    }

    /** What can be asked for without changing anything. */
    static List<String> byAsking(FoundThings x) {
        Seen seen = new Seen(x);
        for (int what = 0; what < 10; what++) {
            seen.see("count " + what, x.count(what));
        }
        seen.see("fault", x.fault());
        seen.see("all", x.all());
        seen.see("first world", x.world(0));
        seen.see("last world", x.world(x.worlds() - 1));
        for (int find = 0; find < x.count(5); find++) {
            seen.find(find);
        }
        for (int claim = 0; claim < x.count(6); claim++) {
            seen.see("claim " + claim, x.claimed(claim, 0) + " " + x.claimed(claim, 1) + " " + x.claimed(claim, 2));
        }
        return seen.answers;
    }

    private void find(int find) {
        for (int which = 0; which < 10; which++) {
            see("name " + find + " " + which, x.name(find, which));
        }
        see("finders " + find, x.finders(find));
        see("has " + find, x.has(find));
        see("gone " + find, x.gone(find));
        see("added " + find, x.added(find, 0));
        for (int law = 0; law < x.count(0); law++) {
            see("whose " + find + " " + law, x.may(find, law) + " " + x.due(find, law));
        }
    }

    /** What was told before, which is seen by telling something else. */
    static List<String> byTelling(FoundThings x) {
        Seen seen = new Seen(x);
        for (int unknown = 0; unknown < 10; unknown++) {
            seen.see("unknown " + unknown, x.know(unknown, 2) + " " + x.weigh(unknown, 5));
        }
        for (int person = 0; person < x.count(3); person++) {
            seen.person(person);
        }
        for (int place = 0; place < 4; place++) {
            seen.see("ground " + place, x.ground(place, false, -1));
        }
        for (int find = 0; find < x.count(5) && x.count(3) > 0; find++) {
            seen.see("held and cried " + find, x.hold(find, 0, 0, 999) + " " + x.cry(find));
        }
        seen.see("a law of the tape", x.law(x.count(9)) + " " + x.fault());
        while (x.count(8) > 0) {
            seen.see("images", x.restore());
            for (int what = 0; what < 8; what++) {
                seen.see("count " + what, x.count(what));
            }
        }
        return seen.answers;
    }

    private void person(int person) {
        for (int find = 0; find < x.count(5); find += 7) {
            see("loss " + find + " " + person, x.loss(find, person));
        }
        see("person " + person, x.passes(person, 0, 0) + " " + x.passes(person, 1, 0) + " " + x.passes(person, 2, 0) + " "
            + x.passes(person, 3, 0) + " " + x.away(person, false));
    }
}
