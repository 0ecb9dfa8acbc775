/** The edges of promises 6 to 10: what is told of unknowns, weights, worlds. */
public final class UnknownEdgesTest {
    private static final String ALL_TEN = "u0 and u1 and u2 and u3 and u4 and u5 and u6 and u7 and u8 and u9";

    private UnknownEdgesTest() {
    }

    public static void main(String[] args) {
        knowing();
        knownInWorlds();
        weighing();
        howManyWorlds();
        numbersOfWorlds();
        worldsWithoutEnd();
        weightsTogether();
        weightsOfOne();
        Check.end();
    }

    private static void knowing() {
        FoundThings x = new FoundThings();
        Check.promise(6, "IndexOutOfBoundsException: no such UNKNOWN");
        Check.bounds("unknown", 0, 9, Check.INDEX, unknown -> x.know(unknown, 2));
        Check.promise(6, "IllegalArgumentException: another one");
        Check.bounds("is", 0, 2, Check.ARGUMENT, is -> x.know(4, is));
        Check.promise(6, "0 FALSE, 1 TRUE, 2 it is OPEN again: what it was");
        for (int unknown = 0; unknown < 10; unknown += 9) {
            int[] told = {0, 0, 1, 1, 2, 2, 1, 0, 2};
            int was = 2;
            for (int is : told) {
                Check.due("know " + unknown + " " + is, was, x.know(unknown, is));
                Check.due("open ones", is == 2 ? 10 : 9, x.count(2));
                was = is;
            }
        }
        Check.promise(6, "a refused call leaves what it was");
        x.know(3, 1);
        Check.refuses("is", 0, 2, Check.ARGUMENT, is -> x.know(3, is));
        Check.due("TRUE still", 1, x.know(3, 1));
        Check.due("open ones", 9, x.count(2));
    }

    /** Each unknown has its own bit in the numbers of worlds. */
    private static void knownInWorlds() {
        Check.promise(6, "those that are told as they are told");
        for (int unknown = 0; unknown < 10; unknown++) {
            FoundThings x = new FoundThings();
            x.know(unknown, 1);
            Check.due("the least with " + unknown, 1 << unknown, x.world(0));
            Check.due("the greatest with " + unknown, 1023, x.world(511));
            x.know(unknown, 0);
            Check.due("the least without " + unknown, 0, x.world(0));
            Check.due("the greatest without " + unknown, 1023 - (1 << unknown), x.world(511));
            Check.due("half of all", 512, x.worlds());
            x.know(unknown, 2);
            Check.due("open again", 1024, x.worlds());
            Check.holds(x, "not u" + unknown + ";");
            Check.due("the greatest by a condition", 1023 - (1 << unknown), x.world(511));
        }
    }

    private static void weighing() {
        FoundThings x = new FoundThings();
        Check.promise(7, "IndexOutOfBoundsException: no such UNKNOWN");
        Check.bounds("unknown", 0, 9, Check.INDEX, unknown -> x.weigh(unknown, 5));
        Check.promise(7, "WEIGHT 1 to 9");
        Check.bounds("weight", 1, 9, Check.ARGUMENT, weight -> x.weigh(4, weight));
        Check.promise(7, "what it was");
        Check.due("the last that was taken", 9, x.weigh(4, 1));
        Check.due("1", 1, x.weigh(4, 1));
        Check.refuses("weight", 1, 9, Check.ARGUMENT, weight -> x.weigh(4, weight));
        Check.due("a refused one leaves it", 1, x.weigh(4, 5));
        for (int unknown = 0; unknown < 10; unknown++) {
            Check.due("5 at first", 5, x.weigh(unknown, unknown % 9 + 1));
        }
        for (int unknown = 0; unknown < 10; unknown++) {
            Check.due("each its own", unknown % 9 + 1, x.weigh(unknown, 5));
        }
        x.know(7, 0);
        Check.due("one that is told has a weight, too", 5, x.weigh(7, 2));
        x.know(7, 2);
        Check.due("and has it still when it is open", 2, x.weigh(7, 5));
    }

    private static void howManyWorlds() {
        Check.promise(8, "how many WORLDS there are");
        FoundThings x = new FoundThings();
        for (int unknown = 0; unknown < 10; unknown++) {
            Check.due("with " + unknown + " told", 1024 >> unknown, x.worlds());
            x.know(unknown, unknown & 1);
        }
        Check.due("all told", 1, x.worlds());
        Check.due("all told: which", 0b1010101010, x.world(0));
        Check.holds(x, "u1 and not u0;");
        Check.due("all told, and a condition that holds", 1, x.worlds());
        Check.holds(x, "u0;");
        Check.due("all told, and one that does not", 0, x.worlds());
        x.know(0, 2);
        Check.due("against another one", 0, x.worlds());
        FoundThings y = new FoundThings();
        Check.holds(y, ALL_TEN + ";");
        Check.due("the last world alone", 1, y.worlds());
        Check.due("which", 1023, y.world(0));
        y.know(9, 0);
        Check.due("none", 0, y.worlds());
        FoundThings z = new FoundThings();
        Check.holds(z, "not[" + ALL_TEN.replace("and", "or") + "];");
        Check.due("the first world alone", 1, z.worlds());
        Check.due("which", 0, z.world(0));
    }

    private static void numbersOfWorlds() {
        Check.promise(9, "the number of the k-th WORLD (rising)");
        FoundThings x = new FoundThings();
        for (int k : new int[] {0, 1, 63, 64, 511, 512, 1022, 1023}) {
            Check.due("world(" + k + ")", k, x.world(k));
        }
        Check.holds(x, "u0 and u6 and not u9;");
        Check.due("the first", 65, x.world(0));
        Check.due("the second", 67, x.world(1));
        Check.due("the last", 511, x.world(127));
    }

    private static void worldsWithoutEnd() {
        Check.promise(9, "NONE");
        FoundThings x = new FoundThings();
        for (int k : new int[] {-1, 1024, 1025, Integer.MIN_VALUE, Integer.MAX_VALUE}) {
            Check.due("world(" + k + ")", -1, x.world(k));
        }
        Check.holds(x, ALL_TEN + ";");
        Check.due("one world", 1023, x.world(0));
        Check.due("a second", -1, x.world(1));
        Check.due("one ahead of it", -1, x.world(-1));
        x.know(0, 0);
        for (int k : new int[] {-1, 0, 1, 1023}) {
            Check.due("no world " + k, -1, x.world(k));
        }
    }

    private static void weightsTogether() {
        Check.promise(10, "WEIGHTS of all WORLDS together");
        FoundThings x = new FoundThings();
        long due = 10000000000L;
        for (int unknown = 0; unknown < 10; unknown++) {
            Check.due("with " + unknown + " told", due, x.all());
            x.weigh(unknown, unknown % 9 + 1);
            Check.due("as much by other weights", due, x.all());
            x.know(unknown, unknown & 1);
            due /= 10;
        }
        Check.due("all told: one world, and nothing is weighed", 1, x.all());
        Check.holds(x, "1=2;");
        Check.due("no worlds", 0, x.all());
    }

    private static void weightsOfOne() {
        Check.promise(10, "of each OPEN UNKNOWN its WEIGHT if TRUE, 10 less that if FALSE, multiplied");
        FoundThings x = new FoundThings();
        Check.holds(x, ALL_TEN + ";");
        long due = 9765625;
        Check.due("5 ten times", due, x.all());
        for (int unknown = 0; unknown < 10; unknown++) {
            x.weigh(unknown, 9);
            due = due / 5 * 9;
            Check.due("9 instead of 5", due, x.all());
        }
        Check.due("above 32 bits", 3486784401L, x.all());
        FoundThings y = new FoundThings();
        Check.holds(y, "not[" + ALL_TEN.replace("and", "or") + "];");
        for (int unknown = 0; unknown < 10; unknown++) {
            y.weigh(unknown, 9);
        }
        Check.due("1 ten times", 1, y.all());
        y.weigh(0, 1);
        Check.due("9 once", 9, y.all());
        y.know(0, 0);
        Check.due("what is told is not weighed", 1, y.all());
        y.know(0, 1);
        Check.due("no world", 0, y.all());
    }
}
