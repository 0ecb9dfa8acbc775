/** Promises 31 to 35: crying, what is due, what is left, when it is gone, who comes late. */
public final class CryingTest {
    private CryingTest() {
    }

    public static void main(String[] args) {
        crying();
        left();
        late();
        Check.end();
    }

    private static void crying() {
        FoundThings x = new FoundThings();
        Check.closeFrom(x, 2);
        x.find(0, 0, 1, 0, 0);
        Check.law(x, "owner cry 2 if u0;finder cry 3 if u1;crown;");
        Check.due("due", 3, x.due(0, 0));
        Check.due("cry", 1, x.cry(0));
        Check.due("cried today", 0, x.cry(0));
        Check.due("due", 2, x.due(0, 0));
        x.know(0, 1);
        Check.due("due in the worlds left", 1, x.due(0, 0));
        x.days(1);
        Check.due("cry", 1, x.cry(0));
        Check.due("due", 0, x.due(0, 0));
        x.days(1);
        Check.due("cry", 1, x.cry(0));
        Check.due("not below 0", 0, x.due(0, 0));
        Check.due("cried", 3, x.name(0, 8));
        x.know(0, 2);
        Check.holds(x, "1=2;");
        Check.due("due without worlds", 0, x.due(0, 0));
        Check.fails("cry(1)", Check.INDEX, () -> x.cry(1));
        Check.fails("cry(-1)", Check.INDEX, () -> x.cry(-1));
        Check.fails("due(1, 9)", Check.INDEX, () -> x.due(1, 9));
        Check.fails("due(0, 1)", Check.ARGUMENT, () -> x.due(0, 1));
    }

    private static void left() {
        FoundThings x = new FoundThings();
        x.days(10);
        x.find(0, 0, 100, 0, 33);
        x.find(0, 0, 99, 0, 33);
        x.find(0, 0, 9999, 0, 1);
        x.find(0, 0, 9989, 0, 1);
        x.find(0, 0, 5, 0, 0);
        Check.fails("before it was found", Check.ARGUMENT, () -> x.left(0, 9));
        Check.fails("behind the last day", Check.ARGUMENT, () -> x.left(0, 10000));
        Check.fails("find 5", Check.INDEX, () -> x.left(5, -1));
        Check.fails("gone(5)", Check.INDEX, () -> x.gone(5));
        Check.due("left", 100, x.left(0, 10));
        Check.due("left", 1, x.left(0, 13));
        Check.due("left", 0, x.left(0, 14));
        Check.due("left", 0, x.left(0, 9999));
        Check.due("gone", 14, x.gone(0));
        Check.due("gone", 13, x.gone(1));
        Check.due("not gone in time", -1, x.gone(2));
        Check.due("gone on the last day", 9999, x.gone(3));
        Check.due("left", 10, x.left(2, 9999));
        Check.due("never gone", -1, x.gone(4));
        x.days(100);
        Check.due("gone ago", 14, x.gone(0));
    }

    private static void late() {
        FoundThings x = new FoundThings();
        Check.closeFrom(x, 2);
        x.find(0, 0, 102, 0, 1);
        x.days(1);
        Check.law(x, "finder cry 1 if u0;owner if u1;crown;");
        Check.due("owner in some", 50, x.late(0, 0));
        x.know(1, 0);
        Check.due("owner in none, something due", 50, x.late(0, 0));
        x.know(0, 0);
        Check.due("owner in none, nothing due", 0, x.late(0, 0));
        x.know(0, 2);
        x.cry(0);
        Check.due("cried out", 0, x.late(0, 0));
        x.know(1, 1);
        Check.due("owner in some", 50, x.late(0, 0));
        x.know(0, 0);
        Check.due("owner in all", 101, x.late(0, 0));
        Check.law(x, "owner cry 9;");
        Check.due("owner in all, something due", 101, x.late(0, 1));
        Check.holds(x, "1=2;");
        Check.due("late without worlds", 0, x.late(0, 1));
        Check.fails("late(1, 9)", Check.INDEX, () -> x.late(1, 9));
        Check.fails("late(0, 2)", Check.ARGUMENT, () -> x.late(0, 2));
    }
}
