/** The edges of promises 19 to 26: whose it is in worlds, what it hangs on, what must be asked. */
public final class WhoseEdgesTest {
    private static final String ANY = "u0 or u1 or u2 or u3 or u4 or u5 or u6 or u7 or u8 or u9";
    private static final String ALL = ANY.replace("or", "and");

    /** Laws that say the same in some worlds and another WHO in others, and one that says another in each. */
    private static final String[] LAWS = {"", "finder;", "crown;", "crown if u0;finder;", "crown if not u0;finder;",
        "halves if u1 and u2;owner;", "ground if u0 and u2;finder;", "crown if u0 and u2;", "crown if not u2;halves if u9;ground;",
        "finder if u0;crown;", "owner if u1;crown;", "ground if u0 and u1;crown;", "halves if u2;crown;", "crown if " + ALL + ";finder;"};

    /** A call with a FIND and a LAW. */
    private interface Asked {
        long ask(FoundThings x, int find, int law);
    }

    private WhoseEdgesTest() {
    }

    public static void main(String[] args) {
        noSuchFindOrLaw();
        whoseBounds();
        firstRule();
        namesOfTheFind();
        comparisons();
        deepest();
        anyTenBits();
        sure();
        may();
        parts();
        hangs();
        hangsOnOpenOnes();
        settles();
        leastSettling();
        questions();
        answersThatDoNotCome();
        firstQuestion();
        withoutWorlds();
        otherLawsBefore();
        otherWorldsBefore();
        otherFindsBefore();
        oftenAsked();
        Check.end();
    }

    private static FoundThings told(String... laws) {
        FoundThings x = new FoundThings();
        x.find(0, 0, 1, 0, 0);
        return Check.laws(x, laws);
    }

    private static void noSuchFindOrLaw() {
        Asked[] calls = {(x, find, law) -> x.whose(find, law, 0, 0), FoundThings::sure, FoundThings::may,
            (x, find, law) -> x.part(find, law, 0), FoundThings::hangs, FoundThings::settles,
            FoundThings::questions, FoundThings::ask};
        for (int i = 0; i < calls.length; i++) {
            Asked call = calls[i];
            FoundThings x = told();
            Check.promise(19 + i, "IllegalArgumentException: no such LAW");
            Check.fails("no law at all", Check.ARGUMENT, () -> call.ask(x, 0, 0));
            Check.law(x, "crown;");
            Check.law(x, "crown;");
            Check.bounds("law", 0, 1, Check.ARGUMENT, law -> call.ask(x, 0, law));
            Check.law(x, "crown;");
            Check.bounds("law of 3", 0, 2, Check.ARGUMENT, law -> call.ask(x, 0, law));
            Check.promise(19 + i, "IndexOutOfBoundsException: no such FIND");
            x.find(0, 0, 1, 0, 0);
            Check.bounds("find", 0, 1, Check.INDEX, find -> call.ask(x, find, 0));
            FoundThings y = new FoundThings();
            Check.law(y, "crown;");
            Check.fails("no find at all", Check.INDEX, () -> call.ask(y, 0, 0));
        }
    }

    private static void whoseBounds() {
        FoundThings x = told("crown if u9;");
        Check.promise(19, "IllegalArgumentException: no such WORLD");
        Check.bounds("world", 0, 1023, Check.ARGUMENT, world -> x.whose(0, 0, world, 0));
        Check.promise(19, "IllegalArgumentException: another what");
        Check.bounds("what", 0, 2, Check.ARGUMENT, what -> x.whose(0, 0, 0, what));
        Check.promise(19, "the first and the last WORLD");
        FoundThings y = told("finder cry 7 if not[" + ANY + "];halves cry 9 if " + ALL + ";crown cry 8;");
        Check.dueAll("the first", new int[] {0, 0, 7}, whose(y, 0));
        Check.dueAll("the second", new int[] {2, 4, 8}, whose(y, 1));
        Check.dueAll("the last but one", new int[] {2, 4, 8}, whose(y, 1022));
        Check.dueAll("the last", new int[] {1, 3, 9}, whose(y, 1023));
    }

    private static int[] whose(FoundThings x, int world) {
        return new int[] {x.whose(0, 0, world, 0), x.whose(0, 0, world, 1), x.whose(0, 0, world, 2)};
    }

    private static void firstRule() {
        Check.promise(19, "the first RULE of which C holds (or that has none); CRY: 0 without");
        FoundThings x = told("halves if u0;ground cry 5 if u0 or u1;finder;crown cry 9;");
        Check.dueAll("two hold", new int[] {0, 3, 0}, whose(x, 1));
        Check.dueAll("one holds", new int[] {1, 2, 5}, whose(x, 2));
        Check.dueAll("one has none", new int[] {2, 0, 0}, whose(x, 0));
        Check.promise(19, "without such a RULE: NONE, owner, 0");
        Check.dueAll("no rules", new int[] {-1, 1, 0}, whose(told(""), 7));
        FoundThings y = told("crown cry 9999 if u0;crown cry 8 if 1=2;");
        Check.dueAll("none holds", new int[] {-1, 1, 0}, whose(y, 1022));
        Check.dueAll("one holds", new int[] {0, 4, 9999}, whose(y, 1023));
        Check.promise(19, "each UNKNOWN by its bit");
        for (int unknown = 0; unknown < 10; unknown++) {
            FoundThings z = told("crown if u" + unknown + ";");
            for (int bit = 0; bit < 10; bit++) {
                Check.due("u" + unknown, bit == unknown ? 4 : 1, z.whose(0, 0, 1 << bit, 1));
                Check.due("all but u" + unknown, bit == unknown ? 1 : 4, z.whose(0, 0, 1023 - (1 << bit), 1));
            }
        }
    }

    /** Two finds that are alike in nothing: a law by one of their names tells them apart. */
    private static void namesOfTheFind() {
        Check.promise(19, "NAMES (of a FIND)");
        String[] names = {"way", "place", "worth", "walled", "marks", "rare", "own", "age", "cried", "claims"};
        for (int which = 0; which < names.length; which++) {
            FoundThings x = new FoundThings();
            x.person(0, 7);
            x.passes(0, 3, 1);
            x.ground(3, true, -1);
            x.find(5, 3, 9999, 7, 0);
            x.cry(0);
            x.claim(0, 0, 1);
            x.days(1);
            x.find(0, 0, 1, 0, 0);
            Check.law(x, "crown if " + names[which] + "=" + x.name(0, which) + ";");
            for (int i = 0; i < 2; i++) {
                Check.due(names[which] + " of the first", 4, x.whose(0, 0, 0, 1));
                Check.due(names[which] + " of the second", 1, x.whose(1, 0, 0, 1));
            }
            Check.due("in all worlds " + names[which], 4, x.sure(0, 0));
            Check.due("and of the second", 1, x.sure(1, 0));
        }
    }

    private static void comparisons() {
        Check.promise(19, "E R E; R: <, > or =; VALUES are whole numbers");
        String sum = "9999" + "+9999".repeat(35);
        String[] hold = {"1<2", "2>1", "2=2", "0-1<0", "0>0-9999", "1-2-3=0-4", "1-(2-3)=2", "1+2-3=0", "9999+9999=9999+9998+1",
            "0-9999-9999<0-9999", "(1)=((1))", "not 1=2", "not 2<2", "not 2>2", "not not 1=1", "00=0", "9999>9998",
            "[1=2]or[1=1]", "1=1 or 1=1 and 1=2", "not 1=2 or 1=1", "not[1=1 and 1=2]", sum + "=" + sum,
            sum + "+1>" + sum, "0-" + sum.replace('+', '-') + "-1<0-" + sum.replace('+', '-')};
        String[] not = {"2<1", "2<2", "1>2", "2>2", "1=2", "0<0-1", "1=1 and 1=2", "not 1=1", "not 1=2 and 1=2",
            "[1=1 or 1=1]and 1=2", "not[1=2 or 1=1]", "1-2-3=2"};
        for (String c : hold) {
            Check.due(c, 4, told("crown if " + c + ";").whose(0, 0, 0, 1));
        }
        for (String c : not) {
            Check.due(c, 1, told("crown if " + c + ";").whose(0, 0, 0, 1));
        }
    }

    /** Six open ones, each with an or and an and that wait for what is inside, and sums that wait as well. */
    private static void deepest() {
        Check.promise(19, "six open at one time, each side of which is worked");
        String text = "u0 or u1 and[u2 or u3 and[u4 or u5 and[u6 or u7 and[u8 or u9 and[not u0 or not u1 and["
            + "u5 or u7 and u9]]]]]]";
        FoundThings x = new FoundThings();
        long all = 0;
        for (int unknown = 0; unknown < 10; unknown++) {
            x.weigh(unknown, unknown % 9 + 1);
        }
        Check.due("holds", 1, Check.holds(x, text + ";"));
        int worlds = 0;
        for (int world = 0; world < 1024; world++) {
            if (deep(world)) {
                worlds++;
                all += weight(world);
            }
        }
        Check.due("worlds", worlds, x.worlds());
        Check.due("weights of all of them", all, x.all());
        Check.due("rounds", 2, Check.holds(x, "9-(8-(7-(6-(5-(4-(3-2))))))=9-(8-(7-(6-(5-(4-(3-2))))))+5-5 and not 1=2;"));
        Check.due("worlds as before", worlds, x.worlds());
        Check.due("rounds", 3, Check.holds(x, "9-(8-(7-(6-(5-(4-(3-2))))))=9-8+7-6+5-4+3-2;"));
        Check.due("worlds as before", worlds, x.worlds());
    }

    private static boolean deep(int world) {
        boolean[] u = new boolean[10];
        for (int unknown = 0; unknown < 10; unknown++) {
            u[unknown] = (world >> unknown & 1) == 1;
        }
        boolean inside = u[5] || u[7] && u[9];
        return u[0] || u[1] && (u[2] || u[3] && (u[4] || u[5] && (u[6] || u[7] && (u[8] || u[9] && (!u[0] || !u[1] && inside)))));
    }

    private static long weight(int world) {
        long weight = 1;
        for (int unknown = 0; unknown < 10; unknown++) {
            int isTrue = unknown % 9 + 1;
            weight *= (world >> unknown & 1) == 1 ? isTrue : 10 - isTrue;
        }
        return weight;
    }

    private static void anyTenBits() {
        Check.promise(19, "in a WORLD (any ten bits)");
        FoundThings x = told("crown if u0;ground;");
        x.know(0, 0);
        Check.due("told otherwise", 4, x.whose(0, 0, 1, 1));
        Check.holds(x, "u1;");
        Check.due("against a condition", 2, x.whose(0, 0, 0, 1));
        Check.holds(x, "1=2;");
        Check.due("without worlds", 4, x.whose(0, 0, 1023, 1));
    }

    private static void sure() {
        Check.promise(20, "SURE is WHO, if it is the same in all WORLDS; NONE: it is not");
        String[] who = {"finder", "owner", "ground", "halves", "crown"};
        for (int i = 0; i < 5; i++) {
            FoundThings x = told(who[i] + ";", who[i] + " if u0;" + who[i] + " cry 3 if u1;" + who[i] + ";",
                who[i] + " if " + ANY + ";" + who[(i + 1) % 5] + ";");
            Check.due(who[i], i, x.sure(0, 0));
            Check.due("by several rules", i, x.sure(0, 1));
            Check.due("in all worlds but one", -1, x.sure(0, 2));
            Check.holds(x, "u9;");
            Check.due("without that one", i, x.sure(0, 2));
            Check.holds(x, ALL + ";");
            Check.due("in one world", i, x.sure(0, 2));
            Check.promise(20, "-2: there is no WORLD");
            x.know(4, 0);
            Check.due("without worlds", -2, x.sure(0, 0));
            Check.promise(20, "SURE");
        }
        Check.due("no rules: the owner", 1, told("").sure(0, 0));
        Check.due("no rule or one that says so", 1, told("owner if u3;").sure(0, 0));
    }

    private static void may() {
        Check.promise(21, "which WHO there are in WORLDS, as bits");
        FoundThings x = told("finder if u0;ground if u1;halves if u2;crown if u3;", "halves;", "crown if " + ALL + ";");
        Check.due("all of them", 31, x.may(0, 0));
        Check.due("one", 8, x.may(0, 1));
        Check.due("one in a single world", 18, x.may(0, 2));
        x.know(9, 0);
        Check.due("which is none", 2, x.may(0, 2));
        x.know(0, 1);
        Check.due("the first rule alone", 1, x.may(0, 0));
        Check.holds(x, "not u0;");
        Check.due("without worlds", 0, x.may(0, 0));
    }

    private static void parts() {
        FoundThings x = told("finder if u0;ground if u1;halves if u2;crown if u3;", "crown;");
        Check.promise(22, "a WHO (0 to 4); IllegalArgumentException: also another WHO");
        Check.bounds("who", 0, 4, Check.ARGUMENT, who -> x.part(0, 0, who));
        Check.promise(22, "WEIGHTS of WORLDS with a WHO together");
        long[] due = {5000000000L, 625000000L, 2500000000L, 1250000000L, 625000000L};
        for (int who = 0; who < 5; who++) {
            Check.due("part " + who, due[who], x.part(0, 0, who));
        }
        Check.due("all of it, above 32 bits", 10000000000L, x.part(0, 1, 4));
        Check.due("nothing of it", 0, x.part(0, 1, 1));
        for (int unknown = 0; unknown < 10; unknown++) {
            x.weigh(unknown, 1);
        }
        Check.due("by other weights", 1000000000L, x.part(0, 0, 0));
        Check.holds(x, ALL + ";");
        Check.due("one world", 1, x.part(0, 1, 4));
        x.know(0, 1);
        x.know(1, 0);
        Check.due("without worlds", 0, x.part(0, 1, 4));
    }

    private static void hangs() {
        Check.promise(23, "two WORLDS are alike in all others, and WHO is not the same");
        for (int unknown = 0; unknown < 10; unknown++) {
            FoundThings x = told("crown if u" + unknown + ";");
            Check.due("on one", 1 << unknown, x.hangs(0, 0));
            Check.due("which settles it", 1 << unknown, x.settles(0, 0));
            Check.due("and is asked", unknown, x.ask(0, 0));
        }
        Check.due("on all ten, by one world", 1023, told("crown if " + ALL + ";").hangs(0, 0));
        Check.due("on all ten, by another one", 1023, told("crown if " + ANY + ";").hangs(0, 0));
        Check.due("on none", 0, told("crown;").hangs(0, 0));
        Check.due("not on what changes the rule alone", 2, told("crown if u0 and u1;crown cry 5 if u1;").hangs(0, 0));
        Check.due("not on what changes nothing", 1, told("crown if u0 and [u1 or not u1];").hangs(0, 0));
    }

    private static void hangsOnOpenOnes() {
        Check.promise(23, "UNKNOWNS that are OPEN; both are WORLDS");
        FoundThings x = told("crown if u0 and u1;finder if u2;");
        Check.due("all open", 7, x.hangs(0, 0));
        x.know(0, 1);
        Check.due("one is told", 6, x.hangs(0, 0));
        x.know(0, 0);
        Check.due("so that another one is nothing", 4, x.hangs(0, 0));
        x.know(0, 2);
        Check.holds(x, "u0;");
        Check.due("a condition does the same", 6, x.hangs(0, 0));
        Check.holds(x, "[u1 and u2]or[not u1 and not u2];");
        Check.due("two that go together", 0, x.hangs(0, 0));
        Check.due("though it is not sure", -1, x.sure(0, 0));
        FoundThings y = told("crown if " + ALL + ";");
        Check.holds(y, "u0 or not u9;");
        Check.due("worlds that are none are not looked at", 1022, y.hangs(0, 0));
    }

    private static void settles() {
        Check.promise(24, "a set of OPEN UNKNOWNS, if WHO is the same in any two WORLDS alike in these");
        Check.due("sure: the empty set", 0, told("crown;").settles(0, 0));
        Check.due("all ten", 1023, told("crown if " + ANY + ";").settles(0, 0));
        FoundThings x = told("crown if u0 and u9;");
        Check.due("two", 513, x.settles(0, 0));
        x.know(9, 1);
        Check.due("only open ones", 1, x.settles(0, 0));
        x.know(9, 0);
        Check.due("none", 0, x.settles(0, 0));
        x.know(9, 2);
        Check.holds(x, "u9;");
        Check.due("what a condition tells need not be in it", 1, x.settles(0, 0));
        Check.holds(x, "not u0;");
        Check.due("one world's worth", 0, x.settles(0, 0));
    }

    private static void leastSettling() {
        Check.promise(24, "LEAST: of these the one of the fewest");
        FoundThings x = told("crown if u0 and u1;");
        Check.holds(x, "[u9 and u0 and u1]or[not u9 and not[u0 and u1]];");
        Check.due("one, though a greater one", 512, x.settles(0, 0));
        x.know(9, 1);
        Check.due("sure by it", 0, x.settles(0, 0));
        Check.promise(24, "of these the least (as bits)");
        FoundThings y = told("crown if u8;");
        Check.holds(y, "[u8 and u3]or[not u8 and not u3];");
        Check.due("the lesser of two", 8, y.settles(0, 0));
        y.know(3, 2);
        FoundThings z = told("crown if [u1 and not u2]or[not u1 and u2];");
        Check.holds(z, "[[u1 and not u2 or not u1 and u2]and[u0 and not u3 or not u0 and u3]]"
            + "or not[[u1 and not u2 or not u1 and u2]or[u0 and not u3 or not u0 and u3]];");
        Check.due("6 is less than 9", 6, z.settles(0, 0));
        Check.due("it takes two questions", 2, z.questions(0, 0));
        Check.due("by either pair", 0, z.ask(0, 0));
        z.know(1, 1);
        Check.due("2 alone", 4, z.settles(0, 0));
        FoundThings ends = told("finder if " + ANY + ";crown;");
        Check.holds(ends, ALL + " or not[" + ANY + "];");
        Check.due("two worlds, the first and the last", 2, ends.worlds());
        Check.due("any settles, so the least", 1, ends.settles(0, 0));
        Check.due("it hangs on none", 0, ends.hangs(0, 0));
        settlesByEachAnswer();
    }

    /** Two unknowns that go together, of which one is needed, if a third one is FALSE (or TRUE) alone. */
    private static void settlesByEachAnswer() {
        Check.promise(24, "WHO is the same in any two WORLDS alike in these: by each answer");
        for (int third = 2; third < 10; third++) {
            FoundThings x = told("crown if u0 and not u" + third + ";", "crown if u0 and u" + third + ";");
            Check.holds(x, "[u0 and u1]or[not u0 and not u1];");
            Check.due("if it is FALSE", 1 << third, x.hangs(0, 0));
            Check.due("if it is FALSE", 1 | 1 << third, x.settles(0, 0));
            Check.due("if it is TRUE", 1 << third, x.hangs(0, 1));
            Check.due("if it is TRUE", 1 | 1 << third, x.settles(0, 1));
        }
    }

    private static void questions() {
        Check.promise(25, "the fewest OPEN UNKNOWNS that must be asked, one after the other");
        Check.due("sure: none", 0, told("crown;").questions(0, 0));
        Check.due("one", 1, told("crown if not u9;").questions(0, 0));
        Check.due("ten", 10, told("crown if " + ANY + ";").questions(0, 0));
        FoundThings x = told("crown if u0 and u1;finder if not u0 and u2;",
            "crown if u0 and u1;crown if not u0 and u2;finder if u3;", "crown if u0 and u1 and u2 or not u0 and u3;");
        Check.due("the next one by what was answered", 2, x.questions(0, 0));
        Check.due("which are three in all", 7, x.settles(0, 0));
        Check.due("three in a row", 3, x.questions(0, 1));
        Check.due("the longer way counts", 3, x.questions(0, 2));
        x.know(0, 1);
        Check.due("one is told", 1, x.questions(0, 0));
        Check.due("one is told", 2, x.questions(0, 1));
        x.know(1, 1);
        Check.due("two are told", 0, x.questions(0, 0));
    }

    private static void answersThatDoNotCome() {
        Check.promise(25, "an answer that no WORLD has does not come");
        FoundThings x = told("finder if u0;ground if u1;halves if u2;crown;");
        Check.due("three questions", 3, x.questions(0, 0));
        Check.holds(x, "not u0;");
        Check.due("0 is known by a condition", 2, x.questions(0, 0));
        Check.due("the first of them", 1, x.ask(0, 0));
        Check.holds(x, "not[u1 and u2];");
        Check.due("still two", 2, x.questions(0, 0));
        Check.holds(x, "u1 or u2;");
        Check.due("one of two", 1, x.questions(0, 0));
        FoundThings y = told("crown if u0 and u1 and u2;finder;");
        Check.holds(y, "u0 and u1 and u2 or not u0 and not u1 and not u2;");
        Check.due("any of three", 1, y.questions(0, 0));
        Check.due("the least", 0, y.ask(0, 0));
        y.know(0, 0);
        Check.due("none", 0, y.questions(0, 0));
    }

    private static void firstQuestion() {
        Check.promise(26, "FIRST: the least UNKNOWN to begin so with");
        Check.due("any of ten", 0, told("crown if " + ALL + ";").ask(0, 0));
        FoundThings x = told("crown if u9 and u1;finder if not u9 and u2;", "crown if u5 and u7;");
        Check.due("not the least it hangs on", 9, x.ask(0, 0));
        Check.due("the least of two", 5, x.ask(0, 1));
        x.know(9, 1);
        Check.due("the one that is left", 1, x.ask(0, 0));
        x.know(5, 1);
        Check.due("an open one", 7, x.ask(0, 1));
        Check.promise(26, "NONE: none must be asked");
        x.know(7, 1);
        Check.due("sure", -1, x.ask(0, 1));
        x.know(1, 0);
        Check.due("sure", -1, x.ask(0, 0));
        Check.due("no rules", -1, told("").ask(0, 0));
    }

    private static void withoutWorlds() {
        FoundThings x = told("crown if u0;");
        Check.holds(x, "1=2;");
        Check.promise(23, "without WORLDS there are no two");
        Check.due("hangs", 0, x.hangs(0, 0));
        Check.promise(24, "without WORLDS the empty set settles");
        Check.due("settles", 0, x.settles(0, 0));
        Check.promise(25, "0 without WORLDS");
        Check.due("questions", 0, x.questions(0, 0));
        Check.promise(26, "none must be asked without WORLDS");
        Check.due("ask", -1, x.ask(0, 0));
    }

    private static int[] riddle(FoundThings x, int law) {
        return new int[] {x.questions(0, law), x.ask(0, law), x.settles(0, law), x.hangs(0, law)};
    }

    /** Each behind each other one: no answer is one of the law that was asked for before. */
    private static void otherLawsBefore() {
        Check.promise(25, "by a LAW, whichever was asked before (so promises 23, 24, 26)");
        for (String before : LAWS) {
            for (String law : LAWS) {
                FoundThings x = told(before, law);
                riddle(x, 0);
                Check.dueAll(law + " behind " + before, riddle(told(law), 0), riddle(x, 1));
                Check.dueAll("and again " + before, riddle(told(before), 0), riddle(x, 0));
                FoundThings once = told(before, law);
                once.questions(0, 0);
                Check.dueAll(law + " behind questions by " + before, riddle(told(law), 0), riddle(once, 1));
            }
        }
        FoundThings y = told("crown if u0;finder;", "ground;", "halves if u1 and u2;owner;");
        int[] questions = {1, 0, 2};
        for (int law : new int[] {0, 1, 2, 1, 0, 2}) {
            Check.due("questions by " + law, questions[law], y.questions(0, law));
        }
    }

    private static void otherWorldsBefore() {
        Check.promise(25, "in the WORLDS that there are, whichever there were before");
        String[] conditions = {"1=1;", "1=2;", "u0;", "not u0;", "u1 or u2;", "not[" + ANY + "];", ALL + ";"};
        for (String before : conditions) {
            for (String law : LAWS) {
                FoundThings x = told(law);
                x.image();
                Check.holds(x, before);
                riddle(x, 0);
                x.restore();
                Check.dueAll(law + ", " + before + " holds no more", riddle(told(law), 0), riddle(x, 0));
            }
        }
        FoundThings y = told("crown if u0;finder;");
        int[] told = {2, 0, 2, 1, 2};
        for (int is : told) {
            y.know(0, is);
            Check.due("told " + is, is == 2 ? 1 : 0, y.questions(0, 0));
        }
    }

    private static void otherFindsBefore() {
        Check.promise(25, "of a FIND, whichever was asked for before");
        FoundThings x = told("crown if worth=2 and u0;finder if worth=2;ground;");
        x.find(0, 0, 2, 0, 0);
        for (int i = 0; i < 4; i++) {
            Check.due("find " + i % 2, i % 2, x.questions(i % 2, 0));
        }
    }

    private static void oftenAsked() {
        Check.promise(19, "without such a RULE: owner, however often it is asked");
        FoundThings x = told("", "finder if u0;", "crown;");
        for (int i = 0; i < 40; i++) {
            Check.due("no rules", 1, x.sure(0, 0));
            Check.due("beside itself", 0, x.beside(0, 0));
        }
        for (int i = 0; i < 40; i++) {
            Check.due("no rules", 1, x.whose(0, 0, i, 1));
            Check.due("none holds", 1, x.whose(0, 1, 0, 1));
        }
        Check.due("one that has rules", 4, x.sure(0, 2));
        Check.due("beside one without", 1, x.beside(0, 2));
        Check.due("a condition", 1, Check.holds(x, "u0;"));
        Check.due("and one that has a rule", 0, x.sure(0, 1));
        Check.due("no rules still", 1, x.sure(0, 0));
    }
}
