/** The edges of promises 1 to 5: a new object, the tape, the texts of laws and conditions, their faults. */
public final class TextEdgesTest {
    private static final String[] WHO = {"finder", "owner", "ground", "halves", "crown"};
    private static final String[] NAMES =
        {"way", "place", "worth", "walled", "marks", "rare", "own", "age", "cried", "claims"};

    private TextEdgesTest() {
    }

    public static void main(String[] args) {
        newObject();
        oneIsNotAnother();
        fullTape();
        orderOfBytes();
        lengthsOfLaws();
        lengthsOfConditions();
        threeLaws();
        eightConditions();
        firstBytes();
        faultyLawsLeaveNothing();
        longestTexts();
        manyPieces();
        wholeLaws();
        numbers();
        unknowns();
        words();
        bothSides();
        blanks();
        rules();
        openAtOneTime();
        closedOnes();
        endsTooEarly();
        firstFromTheLeft();
        leastOfOne();
        signsBesideOthers();
        behindTheEnd();
        conditionsAreNoRules();
        namesInConditions();
        placesOfFaults();
        Check.end();
    }

    // ---- promise 1

    private static void newObject() {
        Check.promise(1, "nothing is told");
        FoundThings x = new FoundThings();
        int[] counts = {0, 0, 10, 0, 0, 0, 0, 0, 0, 0};
        for (int what = 0; what < 10; what++) {
            Check.due("count(" + what + ")", counts[what], x.count(what));
        }
        Check.due("fault()", -1, x.fault());
        Check.due("worlds()", 1024, x.worlds());
        Check.due("all()", 10000000000L, x.all());
        Check.due("restore()", -1, x.restore());
        Check.fails("no find", Check.INDEX, () -> x.finders(0));
        Check.fails("no person", Check.ELEMENT, () -> x.away(0, false));
        Check.fails("no claim", Check.INDEX, () -> x.claimed(0, 0));
        Check.fails("no law", Check.ARGUMENT, () -> x.beside(0, 0));
        Check.promise(1, "UNKNOWNS are OPEN at first, their WEIGHT 5");
        for (int unknown = 0; unknown < 10; unknown++) {
            Check.due("know " + unknown, 2, x.know(unknown, 2));
            Check.due("weigh " + unknown, 5, x.weigh(unknown, 5));
        }
        Check.promise(1, "PLACES are not WALLED at first, their GROUND is NONE, PASSES are 0");
        x.person(0, 0);
        for (int place = 0; place < 4; place++) {
            x.find(0, place, 1, 0, 0);
            Check.due("walled " + place, 0, x.name(place, 3));
            Check.due("ground " + place, -1, x.ground(place, false, -1));
            Check.due("passes " + place, 0, x.passes(0, place, 0));
        }
    }

    private static void oneIsNotAnother() {
        Check.promise(1, "nothing is told, though another object was told much");
        FoundThings x = new FoundThings();
        FoundThings y = new FoundThings();
        Check.law(x, "crown;");
        Check.holds(x, "u0;");
        x.know(1, 1);
        x.weigh(2, 9);
        x.person(0, 7);
        x.ground(0, true, 0);
        x.days(5);
        x.find(0, 0, 1, 7, 0);
        x.claim(0, 0, 1);
        x.image();
        x.feed(1, 1, 1, 1, 1);
        for (FoundThings z : new FoundThings[] {y, new FoundThings()}) {
            for (int what = 0; what < 10; what++) {
                Check.due("count(" + what + ")", what == 2 ? 10 : 0, z.count(what));
            }
            Check.due("all()", 10000000000L, z.all());
            Check.due("weigh", 5, z.weigh(2, 5));
            Check.due("ground", -1, z.ground(0, false, -1));
            Check.due("restore()", -1, z.restore());
        }
    }

    // ---- promise 2

    private static void fullTape() {
        Check.promise(2, "NONE, doing nothing, if there would be more than 400");
        FoundThings x = new FoundThings();
        Check.feed(x, " ".repeat(380) + "ground if u0;       ");
        Check.due("there are 400", 400, x.count(9));
        Check.due("20 more", -1, x.feed(0x63636363, 0x63636363, 0x63636363, 0x63636363, 0x63636363));
        Check.due("once more", -1, x.feed(-1, -1, -1, -1, -1));
        Check.due("there are 400 still", 400, x.count(9));
        Check.due("and the same", 0, x.law(400));
        x.find(0, 0, 1, 0, 0);
        Check.due("in a world", 2, x.whose(0, 0, 1, 1));
        Check.promise(2, "how many there are");
        FoundThings y = new FoundThings();
        for (int many = 20; many <= 400; many += 20) {
            Check.due("feed", many, y.feed(0x20202020, 0x20202020, 0x20202020, 0x20202020, 0x20202020));
        }
        Check.due("law(400)", 0, y.law(400));
        Check.due("the first again", 20, y.feed(0, 0, 0, 0, 0));
    }

    /** A sign that can't stand anywhere tells by the fault's place where it came on the tape. */
    private static void orderOfBytes() {
        Check.promise(2, "of each number the highest first");
        for (int place = 0; place < 400; place += place < 40 ? 1 : 19) {
            for (int sign : new int[] {1, 127, 128, 255}) {
                FoundThings x = new FoundThings();
                Check.feed(x, " ".repeat(place) + (char) sign + " ".repeat(399 - place));
                Check.due("a sign at " + place, -9, x.law(400));
                Check.due("its place", place, x.fault());
            }
        }
        FoundThings y = new FoundThings();
        Check.due("five numbers", 20, y.feed(0x66696e64, 0x65722063, 0x72792033, 0x20696620, 0x75313b20));
        Check.due("finder cry 3 if u1;", 0, y.law(20));
        y.find(0, 0, 1, 0, 0);
        Check.due("its cry", 3, y.whose(0, 0, 2, 2));
    }

    // ---- promises 3 and 4: how many bytes, how many texts

    private static void lengthsOfLaws() {
        Check.promise(3, "IllegalArgumentException: n is not 0 to the TAPE's bytes (it stays)");
        FoundThings x = new FoundThings();
        Check.refuses("law of an empty tape", 0, 0, Check.ARGUMENT, x::law);
        Check.due("law(0) of an empty tape", 0, x.law(0));
        Check.feed(x, "crown;");
        Check.refuses("law", 0, 20, Check.ARGUMENT, x::law);
        Check.due("the tape stays", 20, x.count(9));
        Check.due("and what is on it", 1, x.law(6));
        x.find(0, 0, 1, 0, 0);
        Check.due("whose", 4, x.sure(0, 1));
        Check.due("law(0) is empty", 1, x.sure(0, 0));
        Check.promise(3, "the first n bytes of the TAPE (empty then)");
        Check.feed(x, "finder;ground;");
        Check.due("7 of 20 bytes", 2, x.law(7));
        Check.due("the others are gone, too", 0, x.count(9));
        Check.due("one rule alone", 0, x.sure(0, 2));
        Check.feed(x, "owner;");
        Check.due("0 of 20 bytes, there are 3", -1, x.law(0));
        Check.due("empty then", 0, x.count(9));
        FoundThings y = new FoundThings();
        Check.feed(y, "owner;x");
        Check.due("with a fault", -9, y.law(7));
        Check.due("empty then", 0, y.count(9));
        Check.feed(y, "owner;" + " ".repeat(14));
        Check.due("all 20 bytes", 0, y.law(20));
    }

    private static void lengthsOfConditions() {
        Check.promise(4, "IllegalArgumentException: likewise");
        FoundThings x = new FoundThings();
        Check.refuses("holds of an empty tape", 0, 0, Check.ARGUMENT, x::holds);
        Check.feed(x, "u9; ");
        Check.refuses("holds", 0, 20, Check.ARGUMENT, x::holds);
        Check.due("the tape stays", 20, x.count(9));
        Check.due("and what is on it", 1, x.holds(4));
        Check.due("worlds", 512, x.worlds());
        Check.promise(4, "the first n bytes of the TAPE (empty then)");
        Check.due("empty then", 0, x.count(9));
        Check.feed(x, "u8;u7;");
        Check.due("3 of 20 bytes", 2, x.holds(3));
        Check.due("empty then", 0, x.count(9));
        Check.due("worlds", 256, x.worlds());
        Check.feed(x, "u7;");
        Check.due("0 of 20 bytes are no condition", -9, x.holds(0));
        Check.due("empty then", 0, x.count(9));
        Check.due("worlds", 256, x.worlds());
    }

    private static void threeLaws() {
        Check.promise(3, "its number; -1: there are 3");
        FoundThings x = new FoundThings();
        x.find(0, 0, 1, 0, 0);
        for (int law = 0; law < 3; law++) {
            Check.due("law " + law, law, Check.law(x, WHO[law + 2] + ";"));
        }
        for (int i = 0; i < 2; i++) {
            Check.due("a fourth", -1, Check.law(x, "finder;"));
            Check.due("the tape is empty then", 0, x.count(9));
            Check.due("there are 3", 3, x.count(0));
        }
        for (int law = 0; law < 3; law++) {
            Check.due("law " + law + " is what it was", law + 2, x.sure(0, law));
        }
        Check.fails("no law 3", Check.ARGUMENT, () -> x.sure(0, 3));
    }

    private static void eightConditions() {
        Check.promise(4, "how many there are; -1: there are 8");
        FoundThings x = new FoundThings();
        for (int i = 0; i < 8; i++) {
            Check.due("condition " + i, i + 1, Check.holds(x, "u" + i + ";"));
            Check.due("worlds", 1024 >> i + 1, x.worlds());
        }
        for (int i = 0; i < 2; i++) {
            Check.due("a ninth", -1, Check.holds(x, "u9;"));
            Check.due("the tape is empty then", 0, x.count(9));
            Check.due("there are 8", 8, x.count(1));
            Check.due("worlds as before", 4, x.worlds());
        }
        Check.due("all", 100L, x.all() / (5L * 5 * 5 * 5 * 5 * 5 * 5 * 5));
    }

    /** What stands behind the first n bytes would make another text of them. */
    private static void firstBytes() {
        Check.promise(3, "the first n bytes of the TAPE are a LAW");
        firstBytes("crowns;", 5, -9, 5);
        firstBytes("crown;x", 6, 0, -1);
        firstBytes("crown;crown", 6, 0, -1);
        firstBytes("crown cry 99999;", 14, -9, 14);
        firstBytes("crown if u12;", 11, -9, 11);
        firstBytes("crown if u1x;", 11, -9, 11);
        firstBytes("crown if 1=1;", 12, -9, 12);
        Check.promise(4, "the first n bytes of the TAPE are a CONDITION");
        FoundThings x = new FoundThings();
        Check.feed(x, "u1;;");
        Check.due("3 of 4", 1, x.holds(3));
        Check.feed(x, "u12;");
        Check.due("2 of 4", -9, x.holds(2));
        Check.due("the place is the length", 2, x.fault());
    }

    private static void firstBytes(String text, int n, int due, int place) {
        FoundThings x = new FoundThings();
        Check.feed(x, text);
        Check.due(n + " bytes of " + text, due, x.law(n));
        Check.due("the place", place, x.fault());
    }

    private static void faultyLawsLeaveNothing() {
        Check.promise(3, "its FAULT less 10");
        FoundThings x = new FoundThings();
        x.find(0, 0, 1, 0, 0);
        Check.due("a fault in the third rule", -9, Check.law(x, "crown cry 9;crown;crown if"));
        Check.due("no law", 0, x.count(0));
        Check.due("the next one is the first", 0, Check.law(x, ""));
        Check.due("without rules", -1, x.whose(0, 0, 0, 0));
        Check.due("of the owner", 1, x.whose(0, 0, 0, 1));
        Check.due("not to be cried", 0, x.whose(0, 0, 0, 2));
        Check.due("a fault behind a condition", -9, Check.law(x, "crown cry 7 if u0 and u1 and u2 and x"));
        Check.due("the next one", 1, Check.law(x, "finder;"));
        Check.due("has no condition", 0, x.sure(0, 1));
        Check.due("and no cry", 0, x.due(0, 1));
        Check.promise(4, "its FAULT less 10");
        Check.due("a fault behind what was fine", -9, Check.holds(x, "u0 and u1 and"));
        Check.due("a fault behind the end", -9, Check.holds(x, "u0;u1;"));
        Check.due("no condition", 0, x.count(1));
        Check.due("all worlds", 1024, x.worlds());
    }

    private static void longestTexts() {
        Check.promise(3, "a text of up to 400 bytes");
        good(" ".repeat(400));
        good(" ".repeat(394) + "crown;");
        good("crown;" + " ".repeat(394));
        faulty(" ".repeat(394) + "crown ", 1, 400);
        faulty("crown;" + " ".repeat(393) + ";", 1, 399);
        faulty("crown if u1" + " and u1".repeat(55) + " and", 1, 400);
        good("crown if u1" + " and u1".repeat(55) + "   ;");
        good("crown cry " + "0".repeat(388) + "9;");
        faulty("crown cry 1" + "0".repeat(389), 2, 10);
        Check.promise(4, "texts of 400 bytes");
        FoundThings x = new FoundThings();
        Check.due("399 blanks", -9, Check.holds(x, " ".repeat(400)));
        Check.due("its place", 400, x.fault());
        Check.due("at the end of all", 1, Check.holds(x, " ".repeat(397) + "u0;"));
        Check.due("with blanks behind", 2, Check.holds(x, "u1;" + " ".repeat(397)));
        Check.due("worlds", 256, x.worlds());
    }

    /** Each byte may be a piece of its own: 400 of them, and the end. */
    private static void manyPieces() {
        Check.promise(4, "texts of 400 bytes, each of which stands for itself");
        FoundThings x = new FoundThings();
        String sum = "1" + "+1".repeat(198);
        Check.due("no end", -9, Check.holds(x, sum + "=1+"));
        Check.due("its place", 400, x.fault());
        Check.due("too early an end", -9, Check.holds(x, sum + ";=1"));
        Check.due("its place", 397, x.fault());
        Check.due("a good end", 1, Check.holds(x, sum + ">9;"));
        Check.due("it holds", 1024, x.worlds());
        Check.due("one that does not hold", 2, Check.holds(x, sum + "=1;"));
        Check.due("no worlds", 0, x.worlds());
    }

    // ---- promises 3 and 4: what texts may be

    private static void good(String text) {
        FoundThings x = new FoundThings();
        Check.due("law " + text, 0, Check.law(x, text));
        Check.due("fault of " + text, -1, x.fault());
    }

    private static void faulty(String text, int number, int place) {
        FoundThings x = new FoundThings();
        Check.due("law " + text, number - 10, Check.law(x, text));
        Check.due("place of the fault in " + text, place, x.fault());
    }

    /** The same C as a law and as a condition; the place is told from its first byte on. */
    private static void goodC(String c) {
        good("crown if " + c + ";");
        FoundThings x = new FoundThings();
        Check.due("holds " + c, 1, Check.holds(x, c + ";"));
        Check.due("fault of " + c, -1, x.fault());
    }

    private static void faultyC(String c, int number, int place) {
        faulty("crown if " + c, number, 9 + place);
        FoundThings x = new FoundThings();
        Check.due("holds " + c, number - 10, Check.holds(x, c));
        Check.due("place of the fault in " + c, place, x.fault());
    }

    private static void wholeLaws() {
        Check.promise(3, "{ RULE \";\" }");
        good("");
        good(" ");
        good("crown;");
        faulty(";", 1, 0);
        faulty("crown;;", 1, 6);
        faulty("crown", 1, 5);
        faulty("crown;crown", 1, 11);
        Check.promise(3, "RULE: WHO, perhaps \"cry\" N, perhaps \"if\" C");
        good("crown cry 1;");
        good("crown if u1;");
        good("crown cry 1 if u1;");
        faulty("crown cry;", 1, 9);
        faulty("crown cry if u1;", 1, 10);
        faulty("crown cry u1;", 1, 10);
        faulty("crown cry way;", 1, 10);
        faulty("crown cry (1);", 1, 10);
        faulty("crown cry 1 2;", 1, 12);
        faulty("crown cry 1 cry 1;", 1, 12);
        faulty("crown cry 1+1;", 1, 11);
        faulty("crown if;", 1, 8);
        faulty("crown if u1 if u1;", 1, 12);
        faulty("crown if u1 cry 1;", 1, 12);
        faulty("crown 1;", 1, 6);
        faulty("crown u1;", 1, 6);
        faulty("crown crown;", 1, 6);
        faulty("cry 1;", 1, 0);
        faulty("if u1;", 1, 0);
        faulty("u1;", 1, 0);
        faulty("1;", 1, 0);
    }

    private static void numbers() {
        Check.promise(3, "N: 0 to 9,999, digits, as many as stand there; FAULT 2: an N above 9,999");
        for (String n : new String[] {"0", "9", "9999", "0000", "09999", "000000000000000000009999"}) {
            good("crown cry " + n + ";");
            goodC(n + "=" + n);
            goodC("(" + n + ")<way-" + n);
        }
        String[] above = {"10000", "99999", "010000", "2147483648", "4294967296", "4294967297", "4294977295",
            "18446744073709551616", "18446744073709551617", "100000000000000000000000000000000"};
        for (String n : above) {
            faulty("crown cry " + n + ";", 2, 10);
            faultyC(n + "=1", 2, 0);
            faultyC("1=" + n, 2, 2);
            faultyC("not [way-(1+" + n, 2, 12);
        }
        faultyC("1 0=1", 1, 2);
        faultyC("1", 1, 1);
        faultyC("-1=1", 1, 0);
        faultyC("1=+1", 1, 2);
        faultyC("1.0=1", 1, 1);
        faultyC("0x1=1", 1, 1);
    }

    private static void unknowns() {
        Check.promise(3, "D: one digit right behind \"u\", no digit, no small letter behind");
        for (int unknown = 0; unknown < 10; unknown++) {
            goodC("u" + unknown);
            goodC("not u" + unknown + " and[u" + unknown + "]or u" + unknown + " ");
            faultyC("u" + unknown + "0;", 1, 0);
            faultyC("u1" + unknown + ";", 1, 0);
        }
        for (String behind : new String[] {"a", "z", "u", "and u2", "or u2", "0", "9", "0a"}) {
            faultyC("[u1" + behind + "]", 1, 1);
        }
        for (String behind : new String[] {"`", "{", "A", "Z", "/", ":", "_", "(", "[", "<", "=", "+", "\0", "\u00e9"}) {
            faultyC("u1" + behind + ";", 1, 2);
        }
        for (String c : new String[] {"u;", "u ;", "u 1;", "u/;", "u:;", "ua;", "u+1;", "uu1;", "u(1);", "u;1"}) {
            faultyC(c, 1, 0);
        }
        faultyC("U1;", 1, 0);
        faultyC("u1=1;", 1, 2);
        faultyC("1=u1;", 1, 2);
        faultyC("(u1);", 1, 1);
        faultyC("1+u1=1;", 1, 2);
        faultyC("u1 u2;", 1, 3);
    }

    private static void words() {
        Check.promise(3, "WORDS: small letters, as many as stand there");
        for (String who : WHO) {
            good(who + ";");
            faulty(who + "s;", 1, 0);
            faulty("crown;" + who.substring(0, who.length() - 1) + ";", 1, 6);
            faulty(who.substring(1) + ";", 1, 0);
            faulty(who.substring(0, 1).toUpperCase() + who.substring(1) + ";", 1, 0);
            faulty(who + "S;", 1, who.length());
            faulty(who + "if u1;", 1, 0);
            faultyC(who + "=1;", 1, 0);
        }
        for (String name : NAMES) {
            goodC(name + "=0");
            goodC("0<" + name + "+" + name);
            faultyC(name + "x=0;", 1, 0);
            faultyC(name.substring(0, name.length() - 1) + "=0;", 1, 0);
            faultyC("0=" + name + "or u1;", 1, 2);
            faultyC(name + "1=0;", 1, name.length());
            faulty(name + ";", 1, 0);
        }
        good("crown cry 5if 5=5or 5=5and not 5=5;");
        good("crown cry5if[u1]or(5)=5;");
        faulty("crown cryif u1;", 1, 6);
        faulty("crown cri 5;", 1, 6);
        faulty("crown ifu1;", 1, 6);
        faulty("crown iff u1;", 1, 6);
        faulty("crown i u1;", 1, 6);
        for (String word : new String[] {"o", "orr", "an", "andd", "no", "nor", "oru", "andu2"}) {
            faultyC("u1 " + word + " u2;", 1, 3);
        }
        for (String word : new String[] {"nott", "no", "notu1", "notnot", "or", "and", "if", "cry", "x"}) {
            faultyC(word + " u2;", 1, 0);
        }
    }

    /** What is missing on one side is a fault, though all behind it may stand there. */
    private static void bothSides() {
        Check.promise(3, "A { \"or\" A }, B { \"and\" B }, E R E, T { + or - T }");
        String[] texts = {"or u1;", "and u1;", "u1 or ;", "u1 and ;", "u1 or or u2;", "u1 and or u2;", "u1 or and u2;",
            "u1 and and u2;", "not ;", "not or u1;", "[];", "[or u1];", "[u1 or ];", "[u1 and ];", "[not ];", "()=1;", "(+1)=1;",
            "(1+)=1;", "(1-)=1;", "1+=1;", "1-;", "<1;", "1<;", "1<<1;", "1<>1;", "1=1=1;", "1++1=1;", "1+-1=1;", "(1=1);",
            "(1)(1)=1;", "[u1][u1];", "[u1]u1;", "u1[u1];", "1=1 1=1;", "u1 not u1;", "u1);", "u1];", "(1]=1;", "[u1);"};
        int[] places = {0, 0, 6, 7, 6, 7, 6, 7, 4, 4, 1, 1, 7, 8, 5, 1, 1, 3, 3, 2, 2, 0, 2, 2, 2, 3, 2, 2, 2,
            3, 4, 4, 2, 4, 3, 2, 2, 2, 3};
        for (int i = 0; i < texts.length; i++) {
            faultyC(texts[i], 1, places[i]);
        }
    }

    private static void blanks() {
        Check.promise(3, "blanks (32) may stand ahead of all these, and at the end");
        String[] pieces = {"halves", "cry", "12", "if", "not", "[", "u1", "or", "(", "way", "+", "3", ")", "-", "rare", "<",
            "7", "]", "and", "u2", ";", "crown", ";"};
        good(String.join(" ", pieces));
        good("   " + String.join("     ", pieces) + "   ");
        for (int sign : new int[] {0, 9, 10, 13, 31, 33, 95, 160, 224}) {
            StringBuilder text = new StringBuilder();
            for (String piece : pieces) {
                faulty(text.toString() + (char) sign + piece, 1, text.length());
                text.append(piece).append(' ');
            }
            faulty(text.toString() + (char) sign, 1, text.length());
        }
        faulty("fin der;", 1, 0);
        faulty("crown cr y 1;", 1, 6);
        faulty("crown cry 1 1;", 1, 12);
    }

    // ---- promises 3 and 4: what there is too much of

    private static void rules() {
        Check.promise(3, "at most 12 RULES; FAULT 3: a 13th RULE, at its first byte");
        String twelve = "crown if 1=2;".repeat(11) + "ground cry 9999;";
        good(twelve);
        good(twelve + "   ");
        faulty(twelve + "crown;", 3, twelve.length());
        faulty(twelve + "   crown", 3, twelve.length() + 3);
        faulty(twelve + " finder cry 10000 if (((((((", 3, twelve.length() + 1);
        faulty("crown;".repeat(40), 3, 72);
        FoundThings x = new FoundThings();
        x.find(0, 0, 1, 0, 0);
        Check.law(x, twelve);
        Check.due("the 12th is read", 11, x.whose(0, 0, 0, 0));
        Check.due("its WHO", 2, x.whose(0, 0, 0, 1));
        Check.due("its CRY", 9999, x.whose(0, 0, 0, 2));
    }

    /** So many of each stand open one in the other; a text of them, up to 7. */
    private static String opened(int nots, int squares, int rounds) {
        return "not ".repeat(nots) + "[".repeat(squares) + "(".repeat(rounds);
    }

    private static void openAtOneTime() {
        Check.promise(3, "FAULT 3: a 7th of ( [ and not that is open at one time");
        for (int nots = 0; nots <= 7; nots++) {
            for (int squares = 0; nots + squares <= 7; squares++) {
                int rounds = 7 - nots - squares;
                String seven = opened(nots, squares, rounds);
                int last = rounds > 0 || squares > 0 ? seven.length() - 1 : seven.length() - 4;
                faultyC(seven + "1", 3, last);
                faultyC(seven, 3, last);
                String inside = rounds > 1 ? "1" + ")".repeat(rounds - 1) + "=1" : "u1";
                String six = rounds > 0 ? opened(nots, squares, rounds - 1)
                    : squares > 0 ? opened(nots, squares - 1, 0) : opened(nots - 1, 0, 0);
                goodC(six + inside + "]".repeat(rounds > 0 ? squares : Math.max(0, squares - 1)));
            }
        }
        faultyC("1=((((((1", 1, 9);
        faultyC("1=(((((((1", 3, 8);
        faultyC("not [".repeat(3) + "u1 and not u1", 3, 22);
        faultyC("not [".repeat(3) + "way=(1", 3, 19);
    }

    private static void closedOnes() {
        Check.promise(3, "open at one time (a not till its B ends)");
        goodC("not not not not not not u1 and not not not not not not u1 or [[[[[[u1]]]]]]and((((((1))))))=((((((1))))))");
        goodC("[u1]" + "and[u1]".repeat(40));
        goodC("(1)" + "+(1)".repeat(40) + "=1");
        goodC("not u1" + " or not u1".repeat(30));
        goodC("not [u1] and [[[[[[u1]]]]]]");
        goodC("not 1=1 and ((((((1))))))=1");
        goodC("not (((((1)))))=(((((1)))))");
        faultyC("not (((((1)))))=((((((1", 3, 21);
        faultyC("not ((((((1", 3, 9);
        goodC("[not u1 and [[[[[u1]]]]]]");
        faultyC("[not u1 and [[[[[[u1", 3, 17);
        faultyC("[not [u1 and [[[[u1", 3, 16);
        goodC("[[[[[u1]]]]and[[[[[u1]]]]]]");
        good("crown if " + opened(6, 0, 0) + "u1;ground if " + opened(0, 6, 0) + "u1]]]]]];");
        Check.promise(4, "what a faulty text left open is open no more");
        FoundThings x = new FoundThings();
        Check.due("six open", -9, Check.holds(x, "not [([u1;"));
        Check.due("six others", 1, Check.holds(x, "not not not [[[u1]]];"));
    }

    // ---- promises 3 to 5: places of faults

    private static void endsTooEarly() {
        Check.promise(3, "FAULT 1: at the length, if the text ends too early");
        String[] pieces = {"halves ", "cry ", "12 ", "if ", "not ", "[", "u1 ", "or ", "(", "way ", "+", "3 ", ")", "- ",
            "rare ", "<", "7 ", "]", "and ", "u2 "};
        StringBuilder text = new StringBuilder();
        for (String piece : pieces) {
            text.append(piece);
            faulty(text.toString(), 1, text.length());
            faulty(text.toString().trim(), 1, text.toString().trim().length());
            faulty(text + "   ", 1, text.length() + 3);
        }
        Check.promise(4, "FAULT 1: at the length, if the text ends too early");
        FoundThings x = new FoundThings();
        for (String c : new String[] {"", "   ", "u1", "u1 ", "u1 or", "not", "[u1", "1", "1<", "1<(", "1<(1", "1+", "[u1]"}) {
            Check.due("holds " + c, -9, Check.holds(x, c));
            Check.due("place in " + c, c.length(), x.fault());
        }
    }

    private static void firstFromTheLeft() {
        Check.promise(3, "FAULTS: the first from the left");
        faulty("crown cry 10000 x;", 2, 10);
        faulty("crown x cry 10000;", 1, 6);
        faulty("crown cry 10000", 2, 10);
        faulty("crown cry 10000 if (((((((1=1;", 2, 10);
        faulty("crown if (((((((10000=1;", 3, 15);
        faulty("crown if ((((((10000=1;", 2, 15);
        faulty("crown if ((((((1(=10000;", 1, 16);
        faulty("crown;".repeat(11) + "crown cry 10000;crown;", 2, 76);
        faulty("crown;".repeat(11) + "crown;crown cry 10000;", 3, 72);
    }

    private static void leastOfOne() {
        Check.promise(3, "of one the least");
        faulty("crown;".repeat(12) + "x", 1, 72);
        faulty("crown;".repeat(12) + ";", 1, 72);
        faulty("crown;".repeat(12) + "10000", 1, 72);
        faulty("crown;".repeat(12) + "not u1", 1, 72);
        faulty("crown;".repeat(12) + "[", 1, 72);
        faulty("crown 10000;", 1, 6);
        faultyC("u1 10000;", 1, 3);
        faultyC("not not not not not not u1 not u1;", 1, 27);
        faultyC("[[[[[[u1[", 1, 8);
        faultyC("((((((1(", 1, 7);
        faultyC("(((((([u1", 1, 6);
        faultyC("((((((not", 1, 6);
        faultyC("((((((u1", 1, 6);
        faultyC("((((((;", 1, 6);
    }

    /** Signs whose numbers lie beside those that may stand there. */
    private static void signsBesideOthers() {
        Check.promise(3, "FAULT 1: what can't stand there, at its first byte");
        for (int sign = 0; sign < 256; sign++) {
            boolean letter = sign >= 'a' && sign <= 'z';
            boolean relation = sign == '<' || sign == '>' || sign == '=';
            boolean sum = sign == '+' || sign == '-';
            boolean digit = sign >= '0' && sign <= '9';
            String one = Character.toString((char) sign);
            if (sign != ' ' && !relation && !sum && !digit) {
                faulty("crown if 1" + one + "=1;", 1, 10);
                faulty("crown if way " + one + "1=1;", 1, 13);
            }
            if (sign != ' ' && sign != ';') {
                faulty("crown;" + one, 1, 6);
                faulty("crown" + one, 1, letter ? 0 : 5);
            }
            if (sign != ']' && sign != ' ' && !digit && !letter) {
                faulty("crown if [u1" + one, 1, 12);
            }
            if (sign != ')' && sign != ' ' && !sum && !digit) {
                faulty("crown if (1" + one, 1, 11);
            }
        }
    }

    private static void behindTheEnd() {
        Check.promise(4, "FAULT 1: behind the \";\" of a CONDITION, too");
        FoundThings x = new FoundThings();
        String[] behind = {";", "u1", "u1;", "x", "10000", "((((((((", "\0", "\u00e9", "crown;"};
        for (String text : behind) {
            Check.due("behind ; " + text, -9, Check.holds(x, "u1;" + text));
            Check.due("its place", 3, x.fault());
            Check.due("behind blanks " + text, -9, Check.holds(x, "u1 ;  " + text));
            Check.due("its place", 6, x.fault());
        }
        Check.due("no condition", 0, x.count(1));
        Check.due("blanks alone", 1, Check.holds(x, "u1;   "));
    }

    private static void conditionsAreNoRules() {
        Check.promise(4, "CONDITIONS are texts: C \";\"");
        FoundThings x = new FoundThings();
        String[] texts = {";", "crown;", "crown if u1;", "if u1;", "cry 1;", "]", ")", "<", "=1", "and u1;", "or u1;"};
        for (String text : texts) {
            Check.due("holds " + text, -9, Check.holds(x, text));
            Check.due("its place", 0, x.fault());
        }
        Check.due("no condition", 0, x.count(1));
    }

    private static void namesInConditions() {
        Check.promise(4, "in CONDITIONS all NAMES are 0");
        for (String name : NAMES) {
            FoundThings x = new FoundThings();
            x.person(0, 4095);
            x.passes(0, 3, 99);
            x.ground(3, true, 0);
            x.find(5, 3, 9999, 4095, 99);
            x.cry(0);
            x.days(9);
            x.claim(0, 0, 1);
            Check.due("holds", 1, Check.holds(x, name + "=0;"));
            Check.due("worlds", 1024, x.worlds());
            Check.due("holds", 2, Check.holds(x, name + ">0 or " + name + "<0;"));
            Check.due("worlds", 0, x.worlds());
        }
    }

    private static void placesOfFaults() {
        Check.promise(5, "NONE without");
        FoundThings x = new FoundThings();
        Check.due("at first", -1, x.fault());
        Check.law(x, "crown;");
        Check.due("a law without", -1, x.fault());
        Check.holds(x, "u1;");
        Check.due("a condition without", -1, x.fault());
        Check.promise(5, "the place of the FAULT of the latest law() or holds()");
        Check.law(x, "x");
        Check.due("at 0", 0, x.fault());
        Check.due("asked again", 0, x.fault());
        Check.holds(x, "u1 x");
        Check.due("of the condition", 3, x.fault());
        Check.law(x, "crown x");
        Check.due("of the law", 6, x.fault());
        x.feed(0, 0, 0, 0, 0);
        x.know(0, 1);
        Check.due("other calls leave it", 6, x.fault());
        x.law(0);
        Check.due("none now", -1, x.fault());
        Check.holds(x, "u1 and");
        Check.due("at the length", 6, x.fault());
        Check.holds(x, "u1;");
        Check.due("none now", -1, x.fault());
        Check.holds(x, "u1 or");
        Check.due("a third law", 2, Check.law(x, ""));
        Check.due("none by the other call", -1, x.fault());
        Check.holds(x, "u1 or");
        Check.due("there are 3", -1, Check.law(x, "crown;"));
        Check.due("none then", -1, x.fault());
    }
}
