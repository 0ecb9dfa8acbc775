import java.lang.reflect.InvocationTargetException;
import java.lang.reflect.Method;
import java.lang.reflect.Modifier;
import java.util.Arrays;
import java.util.Random;

/**
 * An object is used for at most 512 calls: the last of them is answered as the first one was, whichever call they
 * are. What later calls answer is free, but nothing that their throws clause does not name may reach the caller.
 */
public final class LongRunsTest {
    private static final int MOST_CALLS = 512;
    private static final int TELLING = 40;

    private interface Asked {
        long ask(FoundThings x);
    }

    private LongRunsTest() {
    }

    public static void main(String[] args) throws IllegalAccessException {
        asking();
        askingInTurn();
        telling();
        texts();
        images();
        laterCalls();
        Check.end();
    }

    /** Told in fewer calls than TELLING, from which on the runs below count. */
    private static FoundThings told() {
        FoundThings x = new FoundThings();
        Check.law(x, "finder cry 3 if u0 and not u9;crown if u1 or worth>50;halves;");
        Check.law(x, "ground cry 2 if not u0 and not[u4 and u5];");
        Check.holds(x, "u0 or u1 or u2;");
        x.know(3, 1);
        x.weigh(5, 8);
        for (int person = 0; person < 3; person++) {
            x.person(person & 1, 7 >> person);
            x.passes(person, 1, 10 + person);
        }
        x.ground(1, true, 2);
        x.find(1, 1, 40, 7, 3);
        x.find(2, 0, 70, 3, 0);
        x.hold(0, 0, 1, 10);
        x.claim(0, 0, 1);
        x.claim(0, 1, 2);
        x.pass(0, 0, 1, 20);
        x.away(0, true);
        x.cry(0);
        x.days(4);
        x.image();
        return x;
    }

    private static Asked[] asked() {
        return new Asked[] {FoundThings::fault, FoundThings::worlds, x -> x.world(77), FoundThings::all, x -> x.name(0, 5),
            x -> x.name(0, 6), x -> x.finders(0), x -> x.whose(0, 0, 1023, 1), x -> x.sure(0, 0), x -> x.may(0, 0),
            x -> x.part(0, 0, 4), x -> x.hangs(0, 0), x -> x.settles(0, 0), x -> x.questions(0, 0), x -> x.ask(0, 0),
            x -> x.claimed(0, 4), x -> x.best(0), x -> x.added(0, 1), x -> x.due(0, 0), x -> x.left(0, 6), x -> x.gone(0),
            x -> x.late(0, 0), x -> x.has(0), x -> x.loss(0, 1), x -> x.beside(0, 1), x -> x.least(0, 1, 0), x -> x.count(2),
            x -> x.hangs(1, 1), x -> x.settles(1, 1), x -> x.questions(1, 1), x -> x.ask(1, 1), x -> x.whose(0, 1, 1, 0)};
    }

    private static void asking() {
        Asked[] calls = asked();
        for (int i = 0; i < calls.length; i++) {
            FoundThings x = told();
            long first = calls[i].ask(told());
            for (int call = TELLING; call < MOST_CALLS; call++) {
                Check.due("call " + call + " of " + i, first, calls[i].ask(x));
            }
        }
    }

    /** One behind the other, so that nothing that a call keeps for the next one is of use. */
    private static void askingInTurn() {
        Asked[] calls = asked();
        long[] first = new long[calls.length];
        for (int i = 0; i < calls.length; i++) {
            first[i] = calls[i].ask(told());
        }
        for (int step : new int[] {1, 2, 5, 7}) {
            FoundThings x = told();
            for (int call = TELLING; call < MOST_CALLS; call++) {
                int i = call * step % calls.length;
                Check.due("call " + call + ", " + i + " in turn", first[i], calls[i].ask(x));
            }
        }
    }

    private static void telling() {
        FoundThings x = new FoundThings();
        x.person(0, 0);
        for (int call = 1; call < MOST_CALLS; call++) {
            int was = (call - 1) % 100;
            Check.due("passes, call " + call, was, x.passes(0, 0, call % 100));
        }
        FoundThings y = new FoundThings();
        for (int call = 0; call < MOST_CALLS; call++) {
            Check.due("know, call " + call, call == 0 ? 2 : (call - 1) % 3, y.know(9, call % 3));
        }
        FoundThings z = new FoundThings();
        z.find(0, 0, 1, 0, 0);
        for (int day = 0; 2 * day + 2 < MOST_CALLS; day++) {
            Check.due("cry on " + day, 1, z.cry(0));
            Check.due("today", day + 1, z.days(1));
        }
        Check.due("cried on each day", 255, z.name(0, 8));
    }

    /** Faults leave room for more texts: as many as there are calls for. */
    private static void texts() {
        FoundThings x = new FoundThings();
        for (int call = 0; call + 3 < MOST_CALLS - 6; call += 3) {
            boolean law = call % 2 == 0;
            Check.feed(x, law ? "crown x" : "u1 or x");
            Check.due("a fault, call " + call, -9, law ? x.law(7) : x.holds(7));
            Check.due("its place", 6, x.fault());
        }
        Check.due("a law at last", 0, Check.law(x, "crown;"));
        Check.due("none before", 1, x.count(0));
        Check.due("a condition at last", 1, Check.holds(x, "u1;"));
    }

    private static void images() {
        FoundThings x = new FoundThings();
        for (int call = 0; call + 4 <= MOST_CALLS; call += 4) {
            Check.due("image", 1, x.image());
            Check.due("a day", 1, x.days(1));
            Check.due("restored", 0, x.restore());
            Check.due("the day before", 0, x.count(4));
        }
    }

    private static void laterCalls() throws IllegalAccessException {
        Random random = new Random(5);
        Method[] methods = FoundThings.class.getDeclaredMethods();
        Arrays.sort(methods, (a, b) -> a.getName().compareTo(b.getName()));
        FoundThings x = told();
        for (int call = 0; call < 20 * MOST_CALLS; call++) {
            Method method = methods[random.nextInt(methods.length)];
            if (Modifier.isPublic(method.getModifiers())) {
                Object[] numbers = new Object[method.getParameterCount()];
                for (int i = 0; i < numbers.length; i++) {
                    boolean flag = method.getParameterTypes()[i] == boolean.class;
                    numbers[i] = flag ? (Object) random.nextBoolean() : (Object) (random.nextInt(9) - 1);
                }
                Check.due(method.getName() + Arrays.toString(numbers), 1, mayEnd(method, x, numbers) ? 1 : 0);
            }
        }
    }

    private static boolean mayEnd(Method method, FoundThings x, Object[] numbers) throws IllegalAccessException {
        try {
            method.invoke(x, numbers);
            return true;
        } catch (InvocationTargetException e) {
            return Arrays.asList(method.getExceptionTypes()).contains(e.getCause().getClass());
        }
    }
}
