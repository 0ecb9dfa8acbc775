import java.lang.reflect.InvocationTargetException;
import java.lang.reflect.Method;
import java.util.ArrayList;
import java.util.HashMap;
import java.util.List;
import java.util.Map;
import java.util.Random;

/** Random runs of calls on the class and on the oracle: all answers are the same. */
public final class OracleTest {
    private static final Map<String, Method> MINE = methods(FoundThings.class);
    private static final Map<String, Method> THEIRS = methods(Oracle.class);

    private final Random random;
    private final FoundThings mine = new FoundThings();
    private final Oracle theirs = new Oracle();
    private final List<String> log = new ArrayList<>();
    private final TextMaker texts;
    private final boolean wild;
    private final int usualMarks;
    private boolean same = true;
    private int dear = 0;
    private int compared = 0;

    private OracleTest(long seed) {
        random = new Random(seed);
        texts = new TextMaker(random, 1 + random.nextInt(10));
        wild = random.nextInt(4) == 0;
        usualMarks = random.nextInt(3) == 0 ? 4095 : random.nextBoolean() ? 7 : 0b101000000011;
    }

    private static Map<String, Method> methods(Class<?> of) {
        Map<String, Method> all = new HashMap<>();
        for (Method method : of.getDeclaredMethods()) {
            if (java.lang.reflect.Modifier.isPublic(method.getModifiers())) {
                all.put(method.getName(), method);
            }
        }
        return all;
    }

    public static void main(String[] args) {
        long seed = args.length > 0 ? Long.parseLong(args[0]) : 1;
        int runs = args.length > 1 ? Integer.parseInt(args[1]) : 400;
        long calls = 0;
        for (int i = 0; i < runs; i++) {
            OracleTest test = new OracleTest(seed * 1000003 + i);
            test.run();
            calls += test.compared;
            Check.due("run of seed " + seed + ", " + i, 1, test.same ? 1 : 0);
            if (!test.same) {
                test.log.subList(Math.max(0, test.log.size() - 400), test.log.size()).forEach(System.out::println);
                break;
            }
        }
        System.out.println(calls + " calls compared");
        Check.end();
    }

    private static Object answer(Method method, Object object, Object[] arguments) {
        try {
            return method.invoke(object, arguments);
        } catch (InvocationTargetException e) {
            return "throws." + e.getCause().getClass().getSimpleName();
        } catch (IllegalAccessException e) {
            throw new IllegalStateException(e);
        }
    }

    private void call(String name, Object... arguments) {
        if (!same) {
            return;
        }
        Object got = answer(MINE.get(name), mine, arguments);
        Object due = answer(THEIRS.get(name), theirs, arguments);
        same = got.equals(due);
        compared++;
        log.add(name + java.util.Arrays.toString(arguments) + " -> " + got + (same ? "" : ", due is " + due));
    }

    /** Mostly a number that may be told, sometimes one beside. */
    private int number(int below) {
        return random.nextInt(wild ? 6 : 40) == 0 ? random.nextInt(below + 4) - 2 : random.nextInt(below);
    }

    private int some(int what) {
        int many = theirs.count(what);
        return many == 0 || random.nextInt(wild ? 8 : 60) == 0 ? random.nextInt(many + 3) - 1 : random.nextInt(many);
    }

    private int marks() {
        if (random.nextInt(wild ? 10 : 60) == 0) {
            return number(4096) * 2;
        }
        return random.nextInt(4096) & usualMarks | (random.nextInt(4) == 0 ? 1 << random.nextInt(12) : 0);
    }

    private void tell(String method, String text) {
        String padded = text + "\0".repeat((20 - text.length() % 20) % 20);
        for (int i = 0; i + 20 <= padded.length(); i += 20) {
            Object[] numbers = new Object[5];
            for (int k = 0; k < 5; k++) {
                int n = 0;
                for (int b = 0; b < 4; b++) {
                    n = n << 8 | padded.charAt(i + 4 * k + b) & 255;
                }
                numbers[k] = n;
            }
            call("feed", numbers);
        }
        log.add("// " + method + " " + text);
        call(method, text.length() + (random.nextInt(50) == 0 ? random.nextInt(50) - 25 : 0));
        call("fault");
    }

    private void run() {
        int open = random.nextInt(11);
        for (int i = 0; i < 10; i++) {
            if (i >= open && random.nextInt(10) > 0) {
                call("know", i, random.nextInt(2));
            }
        }
        int bound = 60 + random.nextInt(300);
        for (int i = 0; i < bound && same; i++) {
            if (random.nextInt(i < 30 ? 6 : 40) == 0) {
                tellSomeText();
            } else if (i < bound / 4 || random.nextInt(3) == 0) {
                change();
            } else {
                look();
            }
        }
    }

    private void tellSomeText() {
        boolean law = random.nextInt(5) > 0;
        String text = law ? texts.law() : texts.condition() + ";";
        if (random.nextInt(4) == 0) {
            text = texts.spoil(text);
        }
        text = text.substring(0, Math.min(400, text.length()));
        tell(law ? "law" : "holds", text);
    }

    private void change() {
        switch (random.nextInt(15)) {
            case 0 -> call("know", number(10), random.nextInt(3) == 0 ? number(3) : 2 - random.nextInt(2) * random.nextInt(3));
            case 1 -> call("weigh", number(10), number(9) + 1);
            case 2, 3 -> call("person", number(2), marks());
            case 4 -> call("passes", some(3), number(4), number(100));
            case 5 -> call("ground", number(4), random.nextBoolean(), some(3));
            case 6 -> call("days", random.nextInt(3) == 0 ? number(1000) : random.nextInt(3));
            case 7 -> call("find", number(6), number(4), random.nextInt(2) == 0 ? 1 + number(9999) : 1 + number(60),
                random.nextInt(4) == 0 ? 0 : marks(), random.nextInt(3) == 0 ? number(100) : random.nextInt(3));
            case 8, 9 -> call("hold", some(5), some(3), number(3), random.nextBoolean() ? number(1000) : number(3));
            case 10 -> claimThrice();
            case 11 -> call("cry", some(5));
            case 12 -> passOn();
            case 13 -> call("away", some(3), random.nextBoolean());
            default -> call(random.nextBoolean() ? "image" : "restore");
        }
    }

    /** Mostly with marks that fit. */
    private void claimThrice() {
        int find = some(5);
        for (int i = 0; i < 3 && same; i++) {
            int person = some(3);
            int fitting = theirs.commonMarks(find, person);
            boolean all = random.nextBoolean();
            call("claim", find, person, random.nextInt(4) == 0 ? marks() : all ? fitting : fitting & marks());
        }
    }

    /** Who has it is looked up, so that things go on. */
    private void passOn() {
        for (int i = 0; i < 3 && same; i++) {
            int find = some(5);
            int from = some(3);
            if (find >= 0 && find < theirs.count(5) && theirs.has(find) != 0 && random.nextInt(6) > 0) {
                from = Integer.numberOfTrailingZeros(theirs.has(find));
            }
            call("pass", find, from, some(3), random.nextBoolean() ? number(10000) : number(10));
        }
    }

    private void look() {
        switch (random.nextInt(24)) {
            case 0 -> call("worlds");
            case 1 -> call("world", random.nextBoolean() ? number(1024) : number(8));
            case 2 -> call("all");
            case 3 -> call("name", some(5), number(10));
            case 4 -> call("finders", some(5));
            case 5 -> call("whose", some(5), some(0), number(1024), number(3));
            case 6 -> call("sure", some(5), some(0));
            case 7 -> call("may", some(5), some(0));
            case 8 -> call("part", some(5), some(0), number(5));
            case 9 -> call("hangs", some(5), some(0));
            case 10 -> callDear("settles", some(5), some(0));
            case 11 -> callDear("questions", some(5), some(0));
            case 12 -> callDear("ask", some(5), some(0));
            case 13 -> call("claimed", some(6), number(6));
            case 14 -> call("best", some(5));
            case 15 -> call("added", some(5), marks());
            case 16 -> call("due", some(5), some(0));
            case 17 -> call("left", some(5), random.nextBoolean() ? number(10000) : theirs.count(4) + number(10));
            case 18 -> call("gone", some(5));
            case 19 -> call("late", some(5), some(0));
            case 20 -> call("has", some(5));
            case 21 -> call("loss", some(5), some(3));
            case 22 -> call("beside", some(0), some(0));
            default -> {
                if (random.nextInt(3) == 0) {
                    callDear("least", some(0), some(0), number(3));
                } else {
                    call("count", number(10));
                }
            }
        }
    }

    /** The oracle takes long for these, if there are many worlds. */
    private void callDear(String name, Object... arguments) {
        int worlds = theirs.worlds();
        dear += worlds > 256 ? 8 : worlds > 64 ? 2 : 0;
        if (dear <= 40) {
            call(name, arguments);
        }
    }
}
