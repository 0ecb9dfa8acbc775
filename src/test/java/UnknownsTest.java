/** Promises 6 to 10: unknowns, weights and worlds. */
public final class UnknownsTest {
    private UnknownsTest() {
    }

    public static void main(String[] args) {
        knowing();
        weighing();
        worlds();
        Check.end();
    }

    private static void knowing() {
        FoundThings x = new FoundThings();
        Check.due("was open", 2, x.know(9, 1));
        Check.due("was true", 1, x.know(9, 0));
        Check.due("was false", 0, x.know(9, 2));
        Check.due("was open again", 2, x.know(9, 2));
        Check.fails("know(-1, 0)", Check.INDEX, () -> x.know(-1, 0));
        Check.fails("know(10, 7)", Check.INDEX, () -> x.know(10, 7));
        Check.fails("know(0, -1)", Check.ARGUMENT, () -> x.know(0, -1));
        Check.fails("know(0, 3)", Check.ARGUMENT, () -> x.know(0, 3));
        Check.due("all open", 10, x.count(2));
    }

    private static void weighing() {
        FoundThings x = new FoundThings();
        Check.due("was 5", 5, x.weigh(0, 9));
        Check.due("was 9", 9, x.weigh(0, 1));
        Check.fails("weigh(0, 0)", Check.ARGUMENT, () -> x.weigh(0, 0));
        Check.fails("weigh(0, 10)", Check.ARGUMENT, () -> x.weigh(0, 10));
        Check.fails("weigh(10, 10)", Check.INDEX, () -> x.weigh(10, 10));
        Check.fails("weigh(-1, 1)", Check.INDEX, () -> x.weigh(-1, 1));
        Check.due("was 1", 1, x.weigh(0, 5));
        Check.due("all", 10000000000L, x.all());
        for (int i = 0; i < 10; i++) {
            x.weigh(i, 9);
        }
        Check.holds(x, "u0 and u1 and u2 and u3 and u4 and u5 and u6 and u7 and u8 and u9;");
        Check.due("greatest weight of a world", 3486784401L, x.all());
        x.know(0, 1);
        Check.due("told ones weigh nothing", 387420489L, x.all());
        x.know(1, 0);
        Check.due("no world", 0, x.all());
    }

    private static void worlds() {
        FoundThings x = new FoundThings();
        Check.due("world(-1)", -1, x.world(-1));
        Check.due("world(700)", 700, x.world(700));
        x.know(3, 1);
        Check.due("worlds with u3", 512, x.worlds());
        Check.due("first", 8, x.world(0));
        Check.due("last", 1023, x.world(511));
        Check.due("none", -1, x.world(512));
        x.know(9, 0);
        x.know(8, 1);
        Check.due("worlds", 128, x.worlds());
        Check.due("first", 264, x.world(0));
        Check.due("last", 511, x.world(127));
        x.weigh(0, 2);
        Check.due("all", 10000000L, x.all());
        Check.holds(x, "u0;");
        Check.due("all with u0", 2000000L, x.all());
        x.know(3, 2);
        Check.due("all with u3 open", 20000000L, x.all());
    }
}
