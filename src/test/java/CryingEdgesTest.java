/** The edges of promises 31 to 35: crying, what is due, what is left, when it is gone, who comes late. */
public final class CryingEdgesTest {
    private CryingEdgesTest() {
    }

    public static void main(String[] args) {
        crying();
        cryingOnTheLastDay();
        dueBounds();
        due();
        dueByWorlds();
        leftBounds();
        left();
        gone();
        lastDays();
        late();
        halves();
        lateWithoutWorlds();
        Check.end();
    }

    private static FoundThings onDay(int day) {
        FoundThings x = new FoundThings();
        for (int left = day; left > 0; left -= 999) {
            x.days(Math.min(999, left));
        }
        return x;
    }

    private static void crying() {
        FoundThings x = new FoundThings();
        Check.promise(31, "IndexOutOfBoundsException: no such FIND");
        Check.fails("no find at all", Check.INDEX, () -> x.cry(0));
        x.find(0, 0, 1, 0, 0);
        x.find(0, 0, 1, 0, 0);
        x.find(0, 0, 1, 0, 0);
        Check.bounds("find", 0, 2, Check.INDEX, x::cry);
        Check.promise(31, "it is cried today: 1; 0: it was cried today");
        Check.due("on the day 0, again", 0, x.cry(0));
        Check.due("the other one, first", 1, x.cry(1));
        Check.due("again", 0, x.cry(1));
        x.days(0);
        Check.due("the same day still", 0, x.cry(0));
        Check.dueAll("days", new int[] {1, 1, 1}, x.name(0, 8), x.name(1, 8), x.name(2, 8));
        x.days(1);
        Check.due("the next day", 1, x.cry(0));
        Check.due("again", 0, x.cry(0));
        Check.dueAll("days", new int[] {2, 1, 1}, x.name(0, 8), x.name(1, 8), x.name(2, 8));
        x.find(0, 0, 1, 0, 0);
        Check.due("one that was found today", 1, x.cry(3));
    }

    private static void cryingOnTheLastDay() {
        Check.promise(31, "also on the last day");
        FoundThings x = onDay(9998);
        x.find(0, 0, 1, 0, 0);
        Check.due("the last but one", 1, x.cry(0));
        x.days(1);
        Check.due("the last", 1, x.cry(0));
        Check.due("again", 0, x.cry(0));
        Check.due("days", 2, x.name(0, 8));
    }

    private static FoundThings told(String... laws) {
        FoundThings x = new FoundThings();
        x.find(0, 0, 100, 0, 0);
        return Check.laws(x, laws);
    }

    private static void dueBounds() {
        FoundThings x = new FoundThings();
        Check.law(x, "crown cry 1;");
        Check.promise(32, "IndexOutOfBoundsException: no such FIND");
        Check.fails("no find at all", Check.INDEX, () -> x.due(0, 0));
        Check.promise(35, "IndexOutOfBoundsException: no such FIND");
        Check.fails("no find at all", Check.INDEX, () -> x.late(0, 0));
        x.find(0, 0, 1, 0, 0);
        x.find(0, 0, 1, 0, 0);
        Check.bounds("find", 0, 1, Check.INDEX, find -> x.late(find, 0));
        Check.promise(32, "IndexOutOfBoundsException: no such FIND");
        Check.bounds("find", 0, 1, Check.INDEX, find -> x.due(find, 0));
        Check.promise(32, "IllegalArgumentException: no such LAW");
        Check.fails("no law at all", Check.ARGUMENT, () -> told().due(0, 0));
        Check.bounds("law", 0, 0, Check.ARGUMENT, law -> x.due(0, law));
        Check.promise(35, "IllegalArgumentException: no such LAW");
        Check.fails("no law at all", Check.ARGUMENT, () -> told().late(0, 0));
        Check.bounds("law", 0, 0, Check.ARGUMENT, law -> x.late(0, law));
    }

    private static void due() {
        Check.promise(32, "less DAYS on which it was cried (0 at least)");
        FoundThings x = told("crown cry 2;", "crown cry 9999;", "crown;");
        int[][] due = {{2, 9999, 0}, {1, 9998, 0}, {0, 9997, 0}, {0, 9996, 0}};
        for (int[] row : due) {
            for (int law = 0; law < 3; law++) {
                Check.due("by law " + law, row[law], x.due(0, law));
            }
            x.days(3);
            Check.due("days alone change nothing", row[1], x.due(0, 1));
            x.cry(0);
            x.cry(0);
        }
        Check.due("CRY 0", 0, told("crown cry 0;").due(0, 0));
        Check.due("no rules", 0, told("").due(0, 0));
    }

    private static void dueByWorlds() {
        Check.promise(32, "the greatest CRY in all WORLDS");
        FoundThings x = told("crown cry 5 if u0;owner cry 7 if u1;finder cry 6 if u2;ground cry 9 if u0;");
        Check.due("the second rule's", 7, x.due(0, 0));
        x.know(1, 0);
        Check.due("not of a world that is none", 6, x.due(0, 0));
        Check.holds(x, "not u2;");
        Check.due("nor by a condition", 5, x.due(0, 0));
        x.know(0, 0);
        Check.due("without a rule", 0, x.due(0, 0));
        x.know(0, 2);
        x.cry(0);
        Check.due("by the first rule again", 4, x.due(0, 0));
        Check.promise(32, "0 without WORLDS");
        Check.law(x, "crown cry 9999;");
        x.know(2, 1);
        Check.due("without worlds", 0, x.due(0, 1));
    }

    private static void leftBounds() {
        Check.promise(33, "IndexOutOfBoundsException: no such FIND");
        FoundThings x = onDay(7);
        Check.fails("no find at all", Check.INDEX, () -> x.left(0, 7));
        x.find(0, 0, 9999, 0, 1);
        x.days(3);
        x.find(0, 0, 9999, 0, 1);
        Check.bounds("find", 0, 1, Check.INDEX, find -> x.left(find, 10));
        Check.promise(33, "IllegalArgumentException: it is ahead of the one on which it was found, or above 9,999");
        Check.bounds("day", 7, 9999, Check.ARGUMENT, day -> x.left(0, day));
        Check.bounds("day of the other", 10, 9999, Check.ARGUMENT, day -> x.left(1, day));
        FoundThings y = onDay(9999);
        y.find(0, 0, 50, 0, 99);
        Check.bounds("the last day", 9999, 9999, Check.ARGUMENT, day -> y.left(0, day));
        Check.due("on the last day", 50, y.left(0, 9999));
        FoundThings z = new FoundThings();
        z.find(0, 0, 50, 0, 99);
        Check.bounds("all days", 0, 9999, Check.ARGUMENT, day -> z.left(0, day));
    }

    private static void left() {
        Check.promise(33, "WORTH less KEEP for each DAY since it was found (0 at least)");
        FoundThings x = onDay(2);
        x.find(0, 0, 9999, 0, 0);
        x.find(0, 0, 100, 0, 50);
        x.find(0, 0, 101, 0, 50);
        x.find(0, 0, 1, 0, 99);
        x.find(0, 0, 9999, 0, 99);
        int[][] due = {{9999, 9999, 9999, 9999, 9999}, {100, 50, 0, 0, 0}, {101, 51, 1, 0, 0}, {1, 0, 0, 0, 0},
            {9999, 9900, 9801, 9702, 0}};
        int[] days = {2, 3, 4, 5, 9999};
        for (int find = 0; find < 5; find++) {
            for (int i = 0; i < 5; i++) {
                Check.due("find " + find + " on " + days[i], due[find][i], x.left(find, days[i]));
            }
        }
        Check.due("nothing is left", 0, x.left(4, 103));
        Check.due("the day before", 99, x.left(4, 102));
        x.days(500);
        Check.due("a day that has been", 50, x.left(1, 3));
        x.cry(0);
        Check.due("crying costs nothing", 9999, x.left(0, 502));
    }

    private static void gone() {
        FoundThings x = new FoundThings();
        Check.promise(34, "IndexOutOfBoundsException: no such FIND");
        Check.fails("no find at all", Check.INDEX, () -> x.gone(0));
        Check.promise(34, "the first DAY on which nothing is LEFT");
        int[][] due = {{1, 99, 1}, {99, 99, 1}, {100, 99, 2}, {9999, 99, 101}, {9999, 1, 9999}, {1, 1, 1}, {100, 50, 2},
            {101, 50, 3}};
        for (int[] row : due) {
            x.find(0, 0, row[0], 0, row[1]);
        }
        for (int find = 0; find < 8; find++) {
            Check.due("worth " + due[find][0] + " keep " + due[find][1], due[find][2], x.gone(find));
            Check.due("left then", 0, x.left(find, due[find][2]));
            Check.due("left the day before", 1, Math.min(1, x.left(find, due[find][2] - 1)));
        }
        x.days(999);
        Check.due("it stays so", 1, x.gone(0));
        Check.promise(34, "IndexOutOfBoundsException: no such FIND");
        Check.bounds("find", 0, 7, Check.INDEX, x::gone);
    }

    private static void lastDays() {
        Check.promise(34, "(to 9,999); NONE");
        FoundThings x = onDay(1);
        x.find(0, 0, 9998, 0, 1);
        x.find(0, 0, 9999, 0, 1);
        x.find(0, 0, 1, 0, 0);
        x.find(0, 0, 9999, 0, 0);
        Check.due("on the last day", 9999, x.gone(0));
        Check.due("a day behind it", -1, x.gone(1));
        Check.due("never, of worth 1", -1, x.gone(2));
        Check.due("never, of worth 9,999", -1, x.gone(3));
        FoundThings y = onDay(9998);
        y.find(0, 0, 99, 0, 99);
        y.find(0, 0, 100, 0, 99);
        y.days(1);
        y.find(0, 0, 1, 0, 99);
        Check.due("on the last day", 9999, y.gone(0));
        Check.due("a day behind it", -1, y.gone(1));
        Check.due("found on the last day", -1, y.gone(2));
    }

    private static void late() {
        Check.promise(35, "nothing, if WHO is not owner in any WORLD, and nothing is DUE");
        FoundThings x = told("crown;", "crown cry 2;", "crown cry 2 if u0;ground;");
        Check.due("no cry", 0, x.late(0, 0));
        Check.promise(35, "half of LEFT, if something is DUE and WHO is owner in none");
        Check.due("2 due", 50, x.late(0, 1));
        Check.due("2 due in some world", 50, x.late(0, 2));
        x.cry(0);
        Check.due("1 due", 50, x.late(0, 1));
        x.days(1);
        x.cry(0);
        Check.due("nothing due", 0, x.late(0, 1));
        x.days(1);
        x.cry(0);
        Check.due("cried more than was due", 0, x.late(0, 1));
        Check.promise(35, "half of LEFT, if WHO is owner in some WORLD, not in all");
        String any = "u0 or u1 or u2 or u3 or u4 or u5 or u6 or u7 or u8 or u9";
        FoundThings y = told("crown if " + any + ";owner;", "owner if " + any + ";crown;", "owner cry 5 if u0;crown cry 4;");
        Check.due("owner in one world", 50, y.late(0, 0));
        Check.due("owner in all but one", 50, y.late(0, 1));
        Check.due("and something due", 50, y.late(0, 2));
        Check.promise(35, "LEFT, if WHO is owner in all");
        y.know(0, 1);
        Check.due("owner in none now", 0, y.late(0, 0));
        Check.due("owner in all now", 100, y.late(0, 1));
        Check.due("owner in all, and something due", 100, y.late(0, 2));
        Check.due("no rules", 100, told("").late(0, 0));
    }

    private static void halves() {
        Check.promise(35, "half of LEFT (cut), today");
        FoundThings x = new FoundThings();
        Check.law(x, "owner if u0;crown;");
        Check.law(x, "owner;");
        x.find(0, 0, 9999, 0, 99);
        x.find(0, 0, 3, 0, 1);
        int[] half = {1, 1, 0, 0, 0};
        for (int day = 0; day < 5; day++) {
            Check.due("half of the first", (9999 - 99 * day) / 2, x.late(0, 0));
            Check.due("all of the first", 9999 - 99 * day, x.late(0, 1));
            Check.due("half of the second", half[day], x.late(1, 0));
            Check.due("all of the second", Math.max(0, 3 - day), x.late(1, 1));
            x.days(1);
        }
        x.days(999);
        Check.due("nothing is left", 0, x.late(0, 1));
    }

    private static void lateWithoutWorlds() {
        Check.promise(35, "0 without WORLDS");
        FoundThings x = told("owner;", "crown cry 5;", "");
        Check.holds(x, "1=2;");
        for (int law = 0; law < 3; law++) {
            Check.due("by law " + law, 0, x.late(0, law));
        }
    }
}
