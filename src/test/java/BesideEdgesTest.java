/** The edges of promises 40 and 41: two laws beside each other, the least find at which they part. */
public final class BesideEdgesTest {
    private BesideEdgesTest() {
    }

    public static void main(String[] args) {
        besideBounds();
        howMany();
        claimsOfEach();
        findsThatAreGone();
        inSomeWorld();
        leastBounds();
        worth();
        wayAndPlace();
        bothLawsLook();
        withoutAll();
        noneToPartAt();
        withoutRoom();
        Check.end();
    }

    private static FoundThings told(String... laws) {
        return Check.laws(new FoundThings(), laws);
    }

    private static void besideBounds() {
        Check.promise(40, "IllegalArgumentException: no such LAW");
        Check.fails("no law at all", Check.ARGUMENT, () -> told().beside(0, 0));
        for (int laws = 1; laws <= 3; laws++) {
            FoundThings x = told();
            for (int i = 0; i < laws; i++) {
                Check.law(x, "crown;");
            }
            Check.bounds("law", 0, laws - 1, Check.ARGUMENT, law -> x.beside(law, 0));
            Check.bounds("other", 0, laws - 1, Check.ARGUMENT, law -> x.beside(0, law));
        }
    }

    private static void howMany() {
        Check.promise(40, "at how many FINDS two LAWS PART");
        FoundThings x = told("crown;", "crown if worth<5;", "crown cry 9 if u0;crown;");
        Check.due("no finds", 0, x.beside(0, 1));
        for (int find = 1; find <= 8; find++) {
            x.find(0, 0, find, 0, 0);
            Check.due("of " + find, Math.max(0, find - 4), x.beside(0, 1));
            Check.due("the other way round", Math.max(0, find - 4), x.beside(1, 0));
            Check.due("WHO is the same, not RULE and CRY", 0, x.beside(0, 2));
            Check.due("a law beside itself", 0, x.beside(1, 1));
        }
        FoundThings y = told("crown;", "", "crown if worth<9 and claims<9;");
        for (int find = 0; find < 8; find++) {
            Check.due("at all that there are", find, y.beside(0, 1));
            Check.due("and so of another", find, y.beside(1, 2));
            y.find(0, 0, find + 1, 0, 0);
        }
        Check.due("at all eight", 8, y.beside(0, 1));
    }

    /** Each find by its own names: the laws part at those that have claims alone. */
    private static void claimsOfEach() {
        Check.promise(40, "at how many FINDS two LAWS PART: each by its own NAMES");
        FoundThings x = told("", "crown if claims>0;", "crown if claims=1;");
        x.person(0, 1);
        for (int find = 0; find < 8; find++) {
            x.find(0, 0, 1, 1, 0);
        }
        int[][] due = {{1, 1, 0}, {1, 0, 1}, {2, 1, 1}, {3, 2, 1}, {3, 1, 2}};
        int[] claimed = {7, 7, 2, 5, 5};
        for (int claim = 0; claim < claimed.length; claim++) {
            x.claim(claimed[claim], 0, 1);
            Check.dueAll("with " + (claim + 1) + " claims", due[claim], x.beside(0, 1), x.beside(0, 2), x.beside(1, 2));
            Check.dueAll("the other way round", due[claim], x.beside(1, 0), x.beside(2, 0), x.beside(2, 1));
        }
        x.image();
        x.claim(0, 0, 1);
        Check.due("one more", 4, x.beside(0, 1));
        x.restore();
        Check.due("which is gone", 3, x.beside(0, 1));
    }

    private static void findsThatAreGone() {
        Check.promise(40, "at how many FINDS: not at those that a restore took");
        FoundThings x = told("crown;", "");
        x.find(0, 0, 1, 0, 0);
        x.image();
        for (int find = 1; find < 8; find++) {
            x.find(0, 0, 1, 0, 0);
        }
        Check.due("eight", 8, x.beside(0, 1));
        x.restore();
        Check.due("one", 1, x.beside(0, 1));
        FoundThings y = told("", "crown if worth=9 or worth<1;");
        for (int find = 0; find < 3; find++) {
            y.find(0, 0, 1, 0, 0);
            Check.due("not at what is no find yet", 0, y.beside(0, 1));
        }
        y.image();
        y.find(0, 0, 9, 0, 0);
        Check.due("at the last", 1, y.beside(0, 1));
        y.restore();
        Check.due("which is gone", 0, y.beside(0, 1));
    }

    private static void inSomeWorld() {
        Check.promise(40, "if in some WORLD WHO is not the same by both");
        String all = "u0 and u1 and u2 and u3 and u4 and u5 and u6 and u7 and u8 and u9";
        FoundThings x = told("crown;", "halves if " + all + ";crown;", "halves if not[" + all.replace("and", "or") + "];crown;");
        x.find(0, 0, 1, 0, 0);
        Check.due("in the last world alone", 1, x.beside(0, 1));
        Check.due("in the first world alone", 1, x.beside(0, 2));
        Check.due("in both", 1, x.beside(1, 2));
        x.know(9, 0);
        Check.due("which is none now", 0, x.beside(0, 1));
        Check.holds(x, "u3;");
        Check.due("nor this one", 0, x.beside(0, 2));
        FoundThings y = told("crown;", "");
        y.find(0, 0, 1, 0, 0);
        Check.holds(y, "1=2;");
        Check.due("without worlds", 0, y.beside(0, 1));
    }

    private static void leastBounds() {
        Check.promise(41, "IllegalArgumentException: no such LAW");
        Check.fails("no law at all", Check.ARGUMENT, () -> told().least(0, 0, 0));
        FoundThings x = told("crown;", "owner;");
        Check.bounds("law", 0, 1, Check.ARGUMENT, law -> x.least(law, 0, 0));
        Check.bounds("other", 0, 1, Check.ARGUMENT, law -> x.least(0, law, 0));
        Check.promise(41, "IllegalArgumentException: also another what");
        Check.bounds("what", 0, 2, Check.ARGUMENT, what -> x.least(0, 1, what));
        Check.bounds("what, where there is none", 0, 2, Check.ARGUMENT, what -> x.least(0, 0, what));
    }

    private static void least(String c, int worth, int way, int place) {
        least(told("", "crown if " + c + ";"), c, worth, way, place);
    }

    private static void least(FoundThings x, String what, int... due) {
        Check.dueAll("least of " + what, due, x.least(0, 1, 0), x.least(0, 1, 1), x.least(0, 1, 2));
        Check.dueAll("the other way round " + what, due, x.least(1, 0, 0), x.least(1, 0, 1), x.least(1, 0, 2));
    }

    private static void worth() {
        Check.promise(41, "by WORTH 1 to 60");
        least("1=1", 1, 0, 0);
        least("worth=1", 1, 0, 0);
        least("worth<2", 1, 0, 0);
        least("worth<1", -1, -1, -1);
        least("worth>1", 2, 0, 0);
        least("worth=60", 60, 0, 0);
        least("worth>59", 60, 0, 0);
        least("worth>60", -1, -1, -1);
        least("worth=61", -1, -1, -1);
        least("worth=9999", -1, -1, -1);
        least("worth-60=0 and way-5=0 and place-3=0", 60, 5, 3);
    }

    private static void wayAndPlace() {
        Check.promise(41, "then WAY, then PLACE");
        least("way=5", 1, 5, 0);
        least("way>5", -1, -1, -1);
        least("way<0", -1, -1, -1);
        least("place=3", 1, 0, 3);
        least("place>3", -1, -1, -1);
        least("place<0", -1, -1, -1);
        least("way+place=8", 1, 5, 3);
        least("way=1 and place=3 or way=2 and place=0", 1, 1, 3);
        least("way=1 and place=2 or way=0 and place=3", 1, 0, 3);
        least("worth=2 or worth=1 and way=5 and place=3", 1, 5, 3);
        least("worth=2 and place=3 or worth=2 and way=1", 2, 0, 3);
        least("worth+way+place=68", 60, 5, 3);
        least("worth+way+place=69", -1, -1, -1);
    }

    /** What both laws look at is tried as well as what one of them looks at alone. */
    private static void bothLawsLook() {
        Check.promise(41, "by WORTH, then WAY, then PLACE: whichever of the two LAWS looks at them");
        String[][] pairs = {{"worth<40", "worth<41"}, {"way<3", "way<4"}, {"place<2", "place<3"}, {"walled=1", "walled=0"},
            {"worth=60 and place=3", "worth=60 and way=5"}, {"worth>9 and way=5", "worth>9 and place=3"},
            {"worth<60 or way<5 or place<3", "worth<61"}, {"way=2 and place=1", "place=1 and way=2"},
            {"worth+way=64", "worth+place=63"}, {"place=2 and walled=1", "place=3 and walled=1"}};
        int[][] due = {{40, 0, 0}, {1, 3, 0}, {1, 0, 2}, {1, 0, 0}, {60, 0, 3}, {10, 0, 3}, {60, 5, 3}, {-1, -1, -1},
            {59, 5, 0}, {1, 0, 3}};
        for (int i = 0; i < pairs.length; i++) {
            FoundThings x = told("crown if " + pairs[i][0] + ";", "crown if " + pairs[i][1] + ";");
            x.ground(3, true, -1);
            least(x, pairs[i][0] + " beside " + pairs[i][1], due[i]);
        }
    }

    private static void withoutAll() {
        Check.promise(41, "without MARKS, KEEP, CLAIMS, found today, never cried");
        for (String name : new String[] {"marks", "rare", "age", "cried", "claims"}) {
            FoundThings x = told("", "crown if " + name + ">0;", "crown if " + name + "=0;");
            x.person(0, 4095);
            x.find(0, 0, 1, 4095, 9);
            x.cry(0);
            x.claim(0, 0, 1);
            x.days(999);
            Check.due(name + " is 0", -1, x.least(0, 1, 0));
            Check.due(name + " is 0", 1, x.least(0, 2, 0));
        }
        Check.promise(41, "PLACES are as they are told");
        FoundThings y = told("", "crown if walled=1;");
        least(y, "walled, none is", -1, -1, -1);
        y.ground(3, true, -1);
        least(y, "walled, the last is", 1, 0, 3);
        y.ground(1, true, -1);
        least(y, "walled, two are", 1, 0, 1);
        FoundThings z = told("", "crown if own=100;");
        z.person(0, 0);
        least(z, "own, without passes", -1, -1, -1);
        z.passes(0, 3, 1);
        least(z, "own, of the last", 1, 0, 3);
        z.passes(0, 2, 99);
        least(z, "own, of two", 1, 0, 2);
    }

    private static void noneToPartAt() {
        Check.promise(41, "NONE: there is none");
        FoundThings x = told("crown if u0;", "crown if u0 and 1=1;", "halves if worth=5;crown if u0;");
        least(x, "two that are the same", -1, -1, -1);
        Check.due("with another one", 5, x.least(0, 2, 0));
        Check.due("with itself", -1, x.least(2, 2, 0));
        FoundThings y = told("", "crown if u0;");
        least(y, "in some world", 1, 0, 0);
        y.know(0, 0);
        least(y, "in no world", -1, -1, -1);
        FoundThings z = told("", "crown;");
        Check.holds(z, "1=2;");
        least(z, "without worlds", -1, -1, -1);
    }

    private static void withoutRoom() {
        Check.promise(41, "it is no FIND that is told: also if there are 8, on the last day");
        FoundThings x = told("", "crown if worth=7 and age=0;");
        for (int find = 0; find < 8; find++) {
            x.find(0, 0, 1, 0, 0);
        }
        for (int i = 0; i < 10; i++) {
            x.days(999);
        }
        x.days(9);
        least(x, "full", 7, 0, 0);
        Check.due("finds", 8, x.count(5));
        Check.due("which stay as they were", 0, x.beside(0, 1));
    }
}
