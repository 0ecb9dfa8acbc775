/** Promises 19 to 26: whose it is in worlds, what it hangs on, what must be asked. */
public final class WhoseTest {
    private WhoseTest() {
    }

    public static void main(String[] args) {
        whose();
        names();
        parts();
        hanging();
        choosing();
        asking();
        lastWorlds();
        wrong();
        Check.end();
    }

    private static void whose() {
        FoundThings x = new FoundThings();
        x.find(2, 1, 30, 0, 0);
        Check.law(x, "halves cry 3 if u0 and u9;crown if u1 or u0;finder cry 4 if not u9 and worth>29;");
        Check.law(x, "");
        int[][] due = {{0, 2, 0, 4}, {1, 1, 4, 0}, {513, 0, 3, 3}, {515, 0, 3, 3}, {512, -1, 1, 0}, {514, 1, 4, 0}};
        for (int[] row : due) {
            for (int what = 0; what < 3; what++) {
                Check.due("whose " + row[0] + " " + what, row[what + 1], x.whose(0, 0, row[0], what));
            }
        }
        x.know(0, 0);
        Check.holds(x, "1=2;");
        Check.due("any ten bits", 3, x.whose(0, 0, 513, 1));
        Check.due("a law without rules", -1, x.whose(0, 1, 1023, 0));
        Check.due("a law without rules", 1, x.whose(0, 1, 1023, 1));
        Check.due("a law without rules", 0, x.whose(0, 1, 1023, 2));
    }

    /** Each name stands for what name() answers. */
    private static void names() {
        String[] words = {"way", "place", "worth", "walled", "marks", "rare", "own", "age", "cried", "claims"};
        for (int which = 0; which < 10; which++) {
            FoundThings x = new FoundThings();
            x.person(0, 7);
            x.person(1, 7);
            x.passes(0, 1, 12);
            x.passes(1, 1, 13);
            x.ground(1, true, 0);
            x.find(4, 1, 77, 7, 0);
            x.cry(0);
            x.days(8);
            x.claim(0, 0, 1);
            Check.law(x, "crown if " + words[which] + "=" + x.name(0, which) + " and " + words[which] + ">0;");
            Check.due(words[which], 4, x.sure(0, 0));
        }
    }

    private static void parts() {
        FoundThings x = new FoundThings();
        Check.closeFrom(x, 3);
        x.weigh(0, 1);
        x.weigh(1, 2);
        x.weigh(2, 3);
        x.find(0, 0, 1, 0, 0);
        Check.law(x, "finder if u0;ground if u1;crown if u2;halves;");
        Check.due("sure", -1, x.sure(0, 0));
        Check.due("may", 1 | 4 | 8 | 16, x.may(0, 0));
        Check.due("finder", 100, x.part(0, 0, 0));
        Check.due("owner", 0, x.part(0, 0, 1));
        Check.due("ground", 180, x.part(0, 0, 2));
        Check.due("halves", 9 * 8 * 7, x.part(0, 0, 3));
        Check.due("crown", 9 * 8 * 3, x.part(0, 0, 4));
        x.know(0, 0);
        Check.due("crown", 8 * 3, x.part(0, 0, 4));
        Check.holds(x, "u1;");
        Check.due("sure", 2, x.sure(0, 0));
        Check.due("may", 4, x.may(0, 0));
        x.know(1, 0);
        Check.due("sure without worlds", -2, x.sure(0, 0));
        Check.due("may without worlds", 0, x.may(0, 0));
        Check.due("part without worlds", 0, x.part(0, 0, 2));
        Check.due("hangs without worlds", 0, x.hangs(0, 0));
        Check.due("settles without worlds", 0, x.settles(0, 0));
        Check.due("questions without worlds", 0, x.questions(0, 0));
        Check.due("ask without worlds", -1, x.ask(0, 0));
    }

    private static void hanging() {
        FoundThings x = new FoundThings();
        x.find(0, 0, 1, 0, 0);
        Check.law(x, "finder if u0 and u9 or u5 and 1=2;finder if u3 and u4;owner if u7;finder if not u7 and u8 and not u8;");
        Check.due("hangs", 1 | 8 | 16 | 512, x.hangs(0, 0));
        Check.due("settles", 1 | 8 | 16 | 512, x.settles(0, 0));
        Check.due("questions", 4, x.questions(0, 0));
        Check.due("ask", 0, x.ask(0, 0));
        x.know(0, 0);
        Check.due("hangs", 8 | 16, x.hangs(0, 0));
        Check.due("ask", 3, x.ask(0, 0));
        Check.holds(x, "u3 and u4 or not u3 and not u4;");
        Check.due("two go together", 0, x.hangs(0, 0));
        Check.due("one of them settles", 8, x.settles(0, 0));
        Check.due("one question", 1, x.questions(0, 0));
        Check.due("the lesser one", 3, x.ask(0, 0));
        x.know(4, 1);
        Check.due("sure now", 0, x.sure(0, 0));
        Check.due("none to ask", -1, x.ask(0, 0));
    }

    /** Fewer unknowns go ahead of lesser ones; what the conditions tie together may stand for each other. */
    private static void choosing() {
        FoundThings x = new FoundThings();
        x.find(0, 0, 1, 0, 0);
        Check.closeFrom(x, 4);
        Check.law(x, "crown if u0 and u1;owner;");
        Check.holds(x, "[u3 and u0 and u1] or [not u3 and not[u0 and u1]];");
        Check.due("one that tells all", 8, x.settles(0, 0));
        Check.due("one question", 1, x.questions(0, 0));
        Check.due("the one that tells all", 3, x.ask(0, 0));
        x.know(3, 2);
        Check.due("hangs on none alone", 0, x.hangs(0, 0));
        Check.law(x, "crown if u0;finder if u1;owner;");
        Check.due("hangs where both are worlds", 3, x.hangs(0, 1));
    }

    private static void asking() {
        FoundThings x = new FoundThings();
        x.find(0, 0, 1, 0, 0);
        Check.closeFrom(x, 3);
        Check.law(x, "crown if u2 and u0;finder if not u2 and u1;owner;");
        Check.due("settles by three", 7, x.settles(0, 0));
        Check.due("but two questions do", 2, x.questions(0, 0));
        Check.due("by asking which first", 2, x.ask(0, 0));
        Check.law(x, "crown if u0 and u1 and u2;");
        Check.due("three", 3, x.questions(0, 1));
        Check.due("any of them, so the least", 0, x.ask(0, 1));
        FoundThings y = new FoundThings();
        y.find(0, 0, 1, 0, 0);
        Check.law(y, "crown if [u0 and not u1 or not u0 and u1] and u2 and u3 and u4 and u5 and u6 and u7 and u8 and u9;");
        Check.due("all ten", 10, y.questions(0, 0));
        Check.due("all ten", 1023, y.settles(0, 0));
        Check.due("all ten", 1023, y.hangs(0, 0));
        Check.due("the first", 0, y.ask(0, 0));
        y.know(9, 1);
        Check.due("nine", 9, y.questions(0, 0));
        y.know(0, 1);
        Check.due("the first that is open", 1, y.ask(0, 0));
        y.know(9, 0);
        Check.due("none", 0, y.questions(0, 0));
    }

    /** A law that is another one in the first world alone, or in the last. */
    private static void lastWorlds() {
        String any = "u0 or u1 or u2 or u3 or u4 or u5 or u6 or u7 or u8 or u9";
        String[] texts = {"finder if " + any + ";crown;", "finder if not[" + any.replace("or", "and") + "];crown;"};
        for (String text : texts) {
            FoundThings x = new FoundThings();
            x.find(0, 0, 1, 0, 0);
            Check.due("law", 0, Check.law(x, text));
            Check.due("hangs", 1023, x.hangs(0, 0));
            Check.due("settles", 1023, x.settles(0, 0));
            Check.due("questions", 10, x.questions(0, 0));
            Check.due("ask", 0, x.ask(0, 0));
            Check.due("part", 9765625L, x.part(0, 0, 4));
            Check.due("may", 17, x.may(0, 0));
        }
        FoundThings y = new FoundThings();
        y.find(0, 0, 1, 0, 0);
        Check.law(y, texts[0]);
        Check.holds(y, "not[" + any + "] or u0 and u1 and u2 and u3 and u4 and u5 and u6 and u7 and u8 and u9;");
        Check.due("the first and the last world", 2, y.worlds());
        Check.due("hangs", 0, y.hangs(0, 0));
        Check.due("settles", 1, y.settles(0, 0));
        Check.due("questions", 1, y.questions(0, 0));
        Check.due("ask", 0, y.ask(0, 0));
        y.know(0, 0);
        Check.due("only the first is left", 4, y.sure(0, 0));
        Check.due("hangs", 0, y.hangs(0, 0));
    }

    private static void wrong() {
        FoundThings x = new FoundThings();
        x.find(0, 0, 1, 0, 0);
        Check.law(x, "owner;");
        Check.fails("whose find", Check.INDEX, () -> x.whose(1, 9, 9999, 9));
        Check.fails("whose law", Check.ARGUMENT, () -> x.whose(0, 1, 0, 0));
        Check.fails("whose world", Check.ARGUMENT, () -> x.whose(0, 0, 1024, 0));
        Check.fails("whose world", Check.ARGUMENT, () -> x.whose(0, 0, -1, 0));
        Check.fails("whose what", Check.ARGUMENT, () -> x.whose(0, 0, 0, 3));
        Check.fails("whose what", Check.ARGUMENT, () -> x.whose(0, 0, 0, -1));
        for (int i = -1; i <= 1; i += 2) {
            int no = i;
            Check.fails("sure find", Check.INDEX, () -> x.sure(no, no));
            Check.fails("sure law", Check.ARGUMENT, () -> x.sure(0, no));
            Check.fails("may find", Check.INDEX, () -> x.may(no, no));
            Check.fails("may law", Check.ARGUMENT, () -> x.may(0, no));
            Check.fails("part find", Check.INDEX, () -> x.part(no, no, 9));
            Check.fails("part law", Check.ARGUMENT, () -> x.part(0, no, 0));
            Check.fails("hangs find", Check.INDEX, () -> x.hangs(no, no));
            Check.fails("hangs law", Check.ARGUMENT, () -> x.hangs(0, no));
            Check.fails("settles find", Check.INDEX, () -> x.settles(no, no));
            Check.fails("settles law", Check.ARGUMENT, () -> x.settles(0, no));
            Check.fails("questions find", Check.INDEX, () -> x.questions(no, no));
            Check.fails("questions law", Check.ARGUMENT, () -> x.questions(0, no));
            Check.fails("ask find", Check.INDEX, () -> x.ask(no, no));
            Check.fails("ask law", Check.ARGUMENT, () -> x.ask(0, no));
        }
        Check.fails("part who", Check.ARGUMENT, () -> x.part(0, 0, 5));
        Check.fails("part who", Check.ARGUMENT, () -> x.part(0, 0, -1));
    }
}
