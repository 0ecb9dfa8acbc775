/** Promises 40 and 41: two laws beside each other, and the least find at which they part. */
public final class BesideTest {
    private BesideTest() {
    }

    public static void main(String[] args) {
        beside();
        least();
        orders();
        Check.end();
    }

    private static void beside() {
        FoundThings x = new FoundThings();
        Check.law(x, "finder if way=1;crown if u0 and way>3;");
        Check.law(x, "finder cry 3 if way=1;owner;");
        Check.law(x, "halves if way=1 and u9;finder if way=1;");
        Check.due("no finds", 0, x.beside(0, 1));
        for (int way = 0; way < 6; way++) {
            x.find(way, 0, 1, 0, 0);
        }
        Check.due("where crown may be", 2, x.beside(0, 1));
        Check.due("either way", 2, x.beside(1, 0));
        Check.due("with halves", 3, x.beside(0, 2));
        Check.due("only halves", 1, x.beside(1, 2));
        Check.due("a law and itself", 0, x.beside(2, 2));
        x.know(0, 0);
        Check.due("no world in which they part", 0, x.beside(0, 1));
        x.know(0, 1);
        Check.holds(x, "not u9;");
        Check.due("not with halves then", 2, x.beside(0, 2));
        x.know(9, 1);
        Check.due("no worlds", 0, x.beside(0, 1));
        Check.fails("law 3", Check.ARGUMENT, () -> x.beside(3, 0));
        Check.fails("law -1", Check.ARGUMENT, () -> x.beside(0, -1));
        Check.fails("least law", Check.ARGUMENT, () -> x.least(3, 0, 0));
        Check.fails("least other", Check.ARGUMENT, () -> x.least(0, 3, 0));
        Check.fails("least what", Check.ARGUMENT, () -> x.least(0, 0, 3));
        Check.fails("least what", Check.ARGUMENT, () -> x.least(0, 0, -1));
        Check.due("least without worlds", -1, x.least(0, 1, 0));
    }

    private static void least(FoundThings x, String text, int worth, int way, int place) {
        Check.law(x, "owner;");
        Check.due("law", 1, Check.law(x, text));
        int[] due = {worth, way, place};
        for (int what = 0; what < 3; what++) {
            Check.due("least " + what + " of " + text, due[what], x.least(0, 1, what));
            Check.due("least " + what + " of " + text, due[what], x.least(1, 0, what));
        }
    }

    private static FoundThings land() {
        FoundThings x = new FoundThings();
        x.person(0, 4095);
        x.person(1, 4095);
        x.passes(0, 2, 30);
        x.passes(1, 2, 10);
        x.passes(0, 1, 1);
        x.passes(1, 1, 99);
        x.ground(3, true, 0);
        x.find(0, 0, 1, 4095, 9);
        x.cry(0);
        x.claim(0, 0, 1);
        x.days(9);
        return x;
    }

    private static void least() {
        least(land(), "crown;", 1, 0, 0);
        least(land(), "", -1, -1, -1);
        least(land(), "crown if worth=60;", 60, 0, 0);
        least(land(), "crown if worth>60;", -1, -1, -1);
        least(land(), "crown if way=5;", 1, 5, 0);
        least(land(), "crown if place=3;", 1, 0, 3);
        least(land(), "crown if way>5;", -1, -1, -1);
        least(land(), "crown if place>3;", -1, -1, -1);
        least(land(), "crown if worth<1;", -1, -1, -1);
        least(land(), "crown if walled=1;", 1, 0, 3);
        least(land(), "crown if own=75;", 1, 0, 2);
        least(land(), "crown if own>0 and own<75;", 1, 0, 1);
        least(land(), "crown if marks+rare+age+cried+claims>0;", -1, -1, -1);
        least(land(), "crown if marks+rare+age+cried+claims=0;", 1, 0, 0);
        least(land(), "crown if u7;", 1, 0, 0);
        FoundThings x = land();
        x.know(7, 0);
        least(x, "crown if u7;", -1, -1, -1);
    }

    private static void orders() {
        least(land(), "crown if worth+way+place=9;", 1, 5, 3);
        least(land(), "crown if way+place=3 and worth=2;", 2, 0, 3);
        least(land(), "crown if worth>40 and place+way>4;", 41, 2, 3);
        least(land(), "crown if worth=7 or way=2 and worth>2;", 3, 2, 0);
        least(land(), "crown if worth=60 and way=5 and place=3;", 60, 5, 3);
    }
}
