/** Promises 1 to 5: a new object, the tape, laws, conditions and their faults. */
public final class TextsTest {
    private TextsTest() {
    }

    public static void main(String[] args) {
        newObject();
        tape();
        goodLaws();
        lawFaults();
        deepFaults();
        conditions();
        conditionFaults();
        limits();
        firstBytes();
        manyPieces();
        Check.end();
    }

    private static void newObject() {
        FoundThings x = new FoundThings();
        int[] counts = {0, 0, 10, 0, 0, 0, 0, 0, 0, 0};
        for (int what = 0; what < 10; what++) {
            Check.due("new count " + what, counts[what], x.count(what));
        }
        Check.due("new fault", -1, x.fault());
        Check.due("new worlds", 1024, x.worlds());
        for (int unknown = 0; unknown < 10; unknown++) {
            Check.due("new weight", 5, x.weigh(unknown, 5));
            Check.due("new known", 2, x.know(unknown, 2));
        }
        for (int place = 0; place < 4; place++) {
            Check.due("new ground", -1, x.ground(place, false, -1));
        }
        Check.due("no image", -1, x.restore());
    }

    private static void tape() {
        FoundThings x = new FoundThings();
        for (int i = 1; i <= 20; i++) {
            Check.due("feed " + i, 20L * i, x.feed(i, i, i, i, i));
        }
        Check.due("feed above 400", -1, x.feed(1, 2, 3, 4, 5));
        Check.due("tape stays at 400", 400, x.count(9));
        Check.fails("law(401)", Check.ARGUMENT, () -> x.law(401));
        Check.fails("law(-1)", Check.ARGUMENT, () -> x.law(-1));
        Check.fails("holds(401)", Check.ARGUMENT, () -> x.holds(401));
        Check.fails("holds(MIN)", Check.ARGUMENT, () -> x.holds(Integer.MIN_VALUE));
        Check.due("tape stays", 400, x.count(9));
        Check.due("law(400) of what is no text", -9, x.law(400));
        Check.due("tape empty", 0, x.count(9));
        Check.fails("law(1) of an empty tape", Check.ARGUMENT, () -> x.law(1));
        Check.due("bytes, highest first", 20, x.feed(0x66696e64, 0x65723bff, 0, 0, 0));
        Check.due("law(7)", 0, x.law(7));
        Check.due("signs above 127", -9, Check.law(x, "finder;" + (char) 233));
        Check.due("their place", 7, x.fault());
    }

    private static void goodLaws() {
        String[] good = {
            "", "   ", "finder;", " owner ;", "ground cry 0;halves cry9999 if u9;crown if way=0;",
            "owner cry 00009999;", "owner if[u0]and[u1]or[u2];", "owner if 1=1and 2=2;", "owner cry 5if u1;",
            "owner if not not not not not not u1;", "owner if [[[[[[u1]]]]]];", "owner if ((((((1))))))=1;",
            "owner if not[not[not[u1]]] and not[not[not[u1]]];", "owner if not not not (((1)))=((((((2))))));",
            "owner if way+place-worth<walled+marks-(rare+own)and age>cried or not claims=0;", "owner   if  u1  ;  "};
        for (String text : good) {
            FoundThings x = new FoundThings();
            boolean tooDeep = text.contains("not not not (((1)))=((((((2");
            Check.due("law " + text, tooDeep ? -7 : 0, Check.law(x, text));
            Check.due("fault of " + text, tooDeep ? text.indexOf("((((((2") + 3 : -1, x.fault());
        }
    }

    private static void lawFault(String text, int number, int place) {
        FoundThings x = new FoundThings();
        Check.due("law " + text, number - 10, Check.law(x, text));
        Check.due("place in " + text, place, x.fault());
        Check.due("no law of " + text, 0, x.count(0));
        Check.due("tape empty behind " + text, 0, x.count(9));
    }

    private static void lawFaults() {
        lawFault("finder", 1, 6);
        lawFault("finder   ", 1, 9);
        lawFault("  findr;", 1, 2);
        lawFault("Finder;", 1, 0);
        lawFault(";", 1, 0);
        lawFault("finder;;", 1, 7);
        lawFault("finder cry if u1;", 1, 11);
        lawFault("finder cry 10000;", 2, 11);
        lawFault("finder cry 99999999999999999999;", 2, 11);
        lawFault("finder cry 4294967296;", 2, 11);
        lawFault("finder cry 1 cry 2;", 1, 13);
        lawFault("finder if u1 cry 2;", 1, 13);
        lawFault("finder if u1 if u2;", 1, 13);
        lawFault("finder if;", 1, 9);
        lawFault("finder if u;", 1, 10);
        lawFault("finder if u 1;", 1, 10);
        lawFault("finder if u12;", 1, 10);
        lawFault("finder if u1a;", 1, 10);
        lawFault("finder if u1and u2;", 1, 10);
        lawFault("finder if u1A;", 1, 12);
        lawFault("finder if u1z;", 1, 10);
        lawFault("finder if u1{;", 1, 12);
        lawFault("finder if u1`;", 1, 12);
        lawFault("finderz;", 1, 0);
        lawFault("finder cry 1/;", 1, 12);
        lawFault("finder cry 1:;", 1, 12);
        lawFault("finder if au1;", 1, 10);
        lawFault("finder if notu1;", 1, 10);
        lawFault("finder if u1 u2;", 1, 13);
        lawFault("finder if u1 and", 1, 16);
        lawFault("finder if u1 and ;", 1, 17);
        lawFault("finder if u1 andu2;", 1, 13);
        lawFault("finder if u1 or and u2;", 1, 16);
        lawFault("finder if not;", 1, 13);
        lawFault("finder if [u1;", 1, 13);
        lawFault("finder if [u1);", 1, 13);
        lawFault("finder if (u1);", 1, 11);
        lawFault("finder if [];", 1, 11);
        lawFault("finder if 1;", 1, 11);
        lawFault("finder if 1<;", 1, 12);
        lawFault("finder if 1<2<3;", 1, 13);
        lawFault("finder if 1<=2;", 1, 12);
        lawFault("finder if -1=2;", 1, 10);
        lawFault("finder if 1=-2;", 1, 12);
        lawFault("finder if 1+=2;", 1, 12);
        lawFault("finder if way1=2;", 1, 13);
        lawFault("finder if way 1=2;", 1, 14);
        lawFault("finder if ways=2;", 1, 10);
        lawFault("finder if (1=2;", 1, 12);
        lawFault("finder if 10000=1;", 2, 10);
        lawFault("finder if 1=10000", 2, 12);
        lawFault("finder if u1=1;", 1, 12);
        lawFault("finder if 1=u1;", 1, 12);
        lawFault("finder owner;", 1, 7);
        lawFault("finder" + (char) 9 + ";", 1, 6);
        lawFault("finder" + (char) 0 + ";", 1, 6);
    }

    private static void deepFaults() {
        String twelve = "crown;".repeat(12);
        lawFault(twelve + "crown;", 3, 72);
        lawFault(twelve + "  crown cry 10000;", 3, 74);
        lawFault(twelve + "crow;", 1, 72);
        lawFault(twelve + "10000;", 1, 72);
        lawFault("crown if " + "not ".repeat(7) + "u1;", 3, 33);
        lawFault("crown if " + "[".repeat(7) + "u1", 3, 15);
        lawFault("crown if " + "(".repeat(7) + "1", 3, 15);
        lawFault("crown if " + "not [".repeat(3) + "(1)=1]]];", 3, 24);
        lawFault("crown if " + "not [".repeat(3) + "u1 and (1)=1]]];", 3, 31);
        lawFault("crown if " + "(".repeat(6) + "[1", 1, 15);
        lawFault("crown if " + "(".repeat(6) + "not", 1, 15);
        lawFault("crown if " + "not ".repeat(6) + "nots", 1, 33);
        FoundThings x = new FoundThings();
        Check.due("12 rules", 0, Check.law(x, twelve + "  "));
        Check.due("not ends with its B", 1,
            Check.law(x, "crown if " + "not ".repeat(6) + "u1 and " + "not ".repeat(6) + "u2 or (1)=1;"));
    }

    private static void conditions() {
        FoundThings x = new FoundThings();
        Check.due("or binds less than and", 1, Check.holds(x, "u0 or u1 and u2;"));
        Check.due("worlds", 5 * 128, x.worlds());
        Check.due("not binds most", 2, Check.holds(x, " not u0 and u1 ; "));
        Check.due("worlds", 128, x.worlds());
        FoundThings y = new FoundThings();
        Check.due("names are 0", 1, Check.holds(y, "way+place+worth+walled+marks+rare+own+age+cried+claims=0;"));
        Check.due("left to right", 2, Check.holds(y, "9-3-2=4 and 9-(3-2)=8 and 1-2<0 and 3>2 and not 2>3;"));
        Check.due("worlds", 1024, y.worlds());
        Check.due("brackets", 3, Check.holds(y, "[u0 or u1] and not [u2 or u9];"));
        Check.due("worlds", 3 * 64, y.worlds());
        Check.due("no world", 4, Check.holds(y, "0>0;"));
        Check.due("worlds", 0, y.worlds());
    }

    private static void conditionFaults() {
        FoundThings x = new FoundThings();
        String[] texts = {"", "  ", "u0", "u0;;", "u0; u1;", ";", "owner;", "if u0;", "10000=1;", "u0 and [u1;"};
        int[] numbers = {1, 1, 1, 1, 1, 1, 1, 1, 2, 1};
        int[] places = {0, 2, 2, 3, 4, 0, 0, 0, 0, 10};
        for (int i = 0; i < texts.length; i++) {
            Check.due("holds " + texts[i], numbers[i] - 10, Check.holds(x, texts[i]));
            Check.due("place in " + texts[i], places[i], x.fault());
        }
        Check.due("7 open", -7, Check.holds(x, "not not not not not not not u1;"));
        Check.due("place", 24, x.fault());
        Check.due("no condition", 0, x.count(1));
        Check.due("all worlds", 1024, x.worlds());
        Check.due("a good one", 1, Check.holds(x, "u0;"));
        Check.due("no fault now", -1, x.fault());
    }

    /** What stands behind the first n bytes is not read. */
    private static void firstBytes() {
        String[] texts = {"finderx", "finder;x", "u12", "u1x", "1=12;", "finder cry 99999;"};
        int[] lengths = {6, 7, 2, 2, 3, 15};
        int[] places = {6, -1, 2, 2, 3, 15};
        for (int i = 0; i < texts.length; i++) {
            FoundThings x = new FoundThings();
            Check.feed(x, texts[i]);
            boolean law = texts[i].startsWith("finder");
            int due = places[i] < 0 ? 0 : -9;
            Check.due("part of " + texts[i], due, law ? x.law(lengths[i]) : x.holds(lengths[i]));
            Check.due("place in part of " + texts[i], places[i], x.fault());
            Check.due("the tape is empty", 0, x.count(9));
        }
    }

    private static void manyPieces() {
        FoundThings x = new FoundThings();
        String sum = "1" + "+1".repeat(198);
        Check.due("400 pieces", 1, Check.holds(x, sum + "=1;"));
        Check.due("it does not hold", 0, x.worlds());
        Check.due("400 pieces without an end", -9, Check.holds(x, sum + "=1+"));
        Check.due("the place is the length", 400, x.fault());
        FoundThings y = new FoundThings();
        Check.due("400 pieces of numbers", 1, Check.holds(y, "199" + "-1".repeat(196) + "=03;"));
        Check.due("it holds", 1024, y.worlds());
        Check.due("many brackets", 2, Check.holds(y, "[u0]" + "or[u0]".repeat(64) + "and u0;"));
        Check.due("worlds", 512, y.worlds());
        Check.due("400 blanks", 0, Check.law(y, " ".repeat(400)));
        Check.due("394 blanks", 1, Check.law(y, " ".repeat(394) + "crown;"));
    }

    private static void limits() {
        FoundThings x = new FoundThings();
        for (int i = 0; i < 3; i++) {
            Check.due("law " + i, i, Check.law(x, "owner;"));
        }
        Check.due("fault", -9, Check.holds(x, "x"));
        Check.due("a fourth law", -1, Check.law(x, "owner;"));
        Check.due("no fault", -1, x.fault());
        Check.due("tape is empty", 0, x.count(9));
        Check.fails("law(1)", Check.ARGUMENT, () -> x.law(1));
        for (int i = 0; i < 8; i++) {
            Check.due("condition " + i, i + 1, Check.holds(x, "u" + i + ";"));
        }
        Check.due("a ninth condition", -1, Check.holds(x, "u9;"));
        Check.due("tape is empty", 0, x.count(9));
        Check.due("worlds", 4, x.worlds());
    }
}
