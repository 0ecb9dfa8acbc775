/** The edges of promises 11 to 14: persons, passes, grounds, days. */
public final class PersonEdgesTest {
    private PersonEdgesTest() {
    }

    public static void main(String[] args) {
        persons();
        sixteen();
        passes();
        grounds();
        walls();
        days();
        lastDay();
        Check.end();
    }

    private static void persons() {
        Check.promise(11, "IllegalArgumentException: KIND, MARKS (0 to 4,095)");
        FoundThings x = new FoundThings();
        Check.bounds("kind", 0, 1, Check.ARGUMENT, kind -> x.person(kind, 0));
        Check.bounds("marks", 0, 4095, Check.ARGUMENT, marks -> x.person(0, marks));
        Check.due("only those that were taken", 4, x.count(3));
        x.find(0, 0, 1, 4095, 0);
        Check.due("all marks were taken as told", 1, x.name(0, 5));
        Check.promise(11, "its number");
        Check.due("the next one", 4, x.person(1, 2048));
        x.claim(0, 4, 2048);
        x.claim(0, 4, 1024);
        Check.due("which has mark 11", 1, x.claimed(0, 3));
        Check.due("and no other", 0, x.claimed(1, 3));
    }

    private static void sixteen() {
        Check.promise(11, "-1: there are 16");
        FoundThings x = new FoundThings();
        x.find(0, 0, 1, 1, 0);
        for (int person = 0; person < 16; person++) {
            Check.fails("not yet " + person, Check.ELEMENT, () -> x.passes(x.count(3), 0, 1));
            Check.due("person", person, x.person(person & 1, 1));
            Check.due("without passes", 0, x.passes(person, 0, 1));
        }
        for (int i = 0; i < 2; i++) {
            Check.due("a 17th", -1, x.person(1, 4095));
            Check.due("there are 16", 16, x.count(3));
            Check.due("who have mark 0", 16, x.name(0, 5));
            Check.due("eight of kind 0", 50, x.name(0, 6));
        }
        Check.fails("no 17th", Check.ELEMENT, () -> x.passes(16, 0, 0));
        Check.due("the 16th", 1, x.passes(15, 0, 99));
        Check.due("is of kind 1", 100 * 8 / 114, x.name(0, 6));
    }

    private static void passes() {
        FoundThings x = new FoundThings();
        for (int i = 0; i < 3; i++) {
            x.person(0, 0);
        }
        Check.promise(12, "NoSuchElementException: no such PERSON");
        Check.bounds("person", 0, 2, Check.ELEMENT, person -> x.passes(person, 0, 0));
        Check.promise(12, "IllegalArgumentException: the PLACE, or the number");
        Check.bounds("place", 0, 3, Check.ARGUMENT, place -> x.passes(0, place, 0));
        Check.bounds("passes", 0, 99, Check.ARGUMENT, passes -> x.passes(0, 0, passes));
        Check.promise(12, "PASSES of a PLACE: what they were");
        Check.due("the last that were taken", 99, x.passes(0, 0, 99));
        Check.refuses("passes", 0, 99, Check.ARGUMENT, passes -> x.passes(0, 0, passes));
        Check.refuses("place", 0, 3, Check.ARGUMENT, place -> x.passes(0, place, 7));
        Check.due("refused ones leave them", 99, x.passes(0, 0, 0));
        for (int person = 0; person < 3; person++) {
            for (int place = 0; place < 4; place++) {
                Check.due("0 at first", 0, x.passes(person, place, 10 * person + place));
            }
        }
        for (int person = 0; person < 3; person++) {
            for (int place = 0; place < 4; place++) {
                Check.due("each its own", 10 * person + place, x.passes(person, place, 0));
            }
        }
    }

    private static void grounds() {
        FoundThings x = new FoundThings();
        Check.promise(13, "NoSuchElementException: the PERSON is none, and not NONE");
        Check.fails("no person yet", Check.ELEMENT, () -> x.ground(0, true, 0));
        x.person(0, 0);
        x.person(0, 0);
        Check.bounds("person", -1, 1, Check.ELEMENT, person -> x.ground(0, true, person));
        Check.promise(13, "IllegalArgumentException: no such PLACE");
        Check.bounds("place", 0, 3, Check.ARGUMENT, place -> x.ground(place, false, -1));
        Check.promise(13, "its GROUND a PERSON's, or NONE: whose it was");
        for (int place = 0; place < 4; place++) {
            Check.due("none's", -1, x.ground(place, false, place & 1));
        }
        for (int place = 0; place < 4; place++) {
            Check.due("each its own", place & 1, x.ground(place, false, 1));
        }
        Check.refuses("person", -1, 1, Check.ELEMENT, person -> x.ground(2, true, person));
        Check.due("a refused one leaves it", 1, x.ground(2, false, -1));
        Check.due("none's again", -1, x.ground(2, false, -1));
        for (int person = 2; person < 16; person++) {
            x.person(0, 0);
        }
        Check.due("the 16th may have it", -1, x.ground(2, false, 15));
        Check.due("and has it", 15, x.ground(2, false, 0));
    }

    private static void walls() {
        Check.promise(13, "a PLACE is WALLED or not");
        FoundThings x = new FoundThings();
        x.person(0, 0);
        for (int place = 0; place < 4; place++) {
            x.find(0, place, 1, 0, 0);
        }
        for (int place = 0; place < 4; place++) {
            x.ground(place, true, -1);
            for (int other = 0; other < 4; other++) {
                Check.due("walled " + other, other <= place ? 1 : 0, x.name(other, 3));
            }
        }
        Check.refuses("person", -1, 0, Check.ELEMENT, person -> x.ground(2, false, person));
        Check.due("a refused one leaves it walled", 1, x.name(2, 3));
        x.ground(2, false, 0);
        Check.due("not walled", 0, x.name(2, 3));
        Check.refuses("person", -1, 0, Check.ELEMENT, person -> x.ground(2, true, person));
        Check.due("a refused one leaves it without", 0, x.name(2, 3));
        Check.due("the others are", 3, x.name(0, 3) + x.name(1, 3) + x.name(3, 3));
    }

    private static void days() {
        Check.promise(14, "DAYS go by (0 to 999): today");
        FoundThings x = new FoundThings();
        Check.bounds("days", 0, 999, Check.ARGUMENT, x::days);
        Check.due("today", 999, x.days(0));
        Check.due("one more", 1000, x.days(1));
        Check.refuses("days", 0, 999, Check.ARGUMENT, x::days);
        Check.due("refused ones do not go by", 1000, x.count(4));
    }

    private static void lastDay() {
        Check.promise(14, "IllegalStateException: it would be above 9,999");
        FoundThings x = new FoundThings();
        for (int i = 1; i <= 10; i++) {
            Check.due("today", 999 * i, x.days(999));
        }
        Check.fails("the day 10,000", Check.STATE, () -> x.days(10));
        Check.fails("far behind", Check.STATE, () -> x.days(999));
        Check.due("today stays", 9990, x.count(4));
        Check.due("the last but one", 9998, x.days(8));
        Check.fails("the day 10,000", Check.STATE, () -> x.days(2));
        Check.due("the last", 9999, x.days(1));
        Check.fails("none behind it", Check.STATE, () -> x.days(1));
        Check.due("no day", 9999, x.days(0));
        Check.due("today stays", 9999, x.count(4));
        Check.refuses("days", 0, 999, Check.ARGUMENT, x::days);
    }
}
