/** What the tests share: comparing answers, telling texts, and the end of a test. */
final class Check {
    /** A call that is due to throw. */
    interface Call {
        void make();
    }

    /** A call with one number that may be out of its bounds. */
    interface Told {
        void tell(int number);
    }

    static final Class<? extends RuntimeException> INDEX = IndexOutOfBoundsException.class;
    static final Class<? extends RuntimeException> ARGUMENT = IllegalArgumentException.class;
    static final Class<? extends RuntimeException> STATE = IllegalStateException.class;
    static final Class<? extends RuntimeException> ELEMENT = java.util.NoSuchElementException.class;

    private static String about = "";
    private static int calls = 0;
    private static int wrong = 0;

    private Check() {
    }

    /** Names the promise, and the sentence of it, that the answers from here on belong to. */
    static void promise(int number, String sentence) {
        about = "promise " + number + " (" + sentence + "): ";
    }

    static void due(String what, long want, long got) {
        calls++;
        if (got != want) {
            wrong++;
            System.out.println(about + what + " answered " + got + ", due is " + want);
        }
    }

    /** Answers that are due one after the other. */
    static void dueAll(String what, int[] want, int... got) {
        due(what + ", how many", want.length, got.length);
        for (int i = 0; i < want.length && i < got.length; i++) {
            due(what + " " + i, want[i], got[i]);
        }
    }

    static void fails(String what, Class<? extends RuntimeException> want, Call call) {
        thrown(what, want.getName(), call);
    }

    private static void thrown(String what, String want, Call call) {
        calls++;
        String got = "nothing";
        try {
            call.make();
        } catch (RuntimeException e) {
            got = e.getClass().getName();
        }
        if (!got.equals(want)) {
            wrong++;
            System.out.println(about + what + " threw " + got + ", due is " + want);
        }
    }

    /** Both ends of what is taken, and the first numbers beyond them, with the farthest ones. */
    static void bounds(String what, int least, int most, Class<? extends RuntimeException> refused, Told call) {
        thrown(what + " " + least, "nothing", () -> call.tell(least));
        thrown(what + " " + most, "nothing", () -> call.tell(most));
        refuses(what, least, most, refused, call);
    }

    /** The first two numbers that are refused on both sides (a bound may be taken for one number), and the farthest. */
    static void refuses(String what, int least, int most, Class<? extends RuntimeException> refused, Told call) {
        for (int number : new int[] {least - 1, least - 2, most + 1, most + 2, Integer.MIN_VALUE, Integer.MAX_VALUE}) {
            fails(what + " " + number, refused, () -> call.tell(number));
        }
    }

    static void feed(FoundThings x, String text) {
        byte[] bytes = new byte[(text.length() + 19) / 20 * 20];
        for (int i = 0; i < text.length(); i++) {
            bytes[i] = (byte) text.charAt(i);
        }
        for (int i = 0; i < bytes.length; i += 20) {
            x.feed(word(bytes, i), word(bytes, i + 4), word(bytes, i + 8), word(bytes, i + 12), word(bytes, i + 16));
        }
    }

    private static int word(byte[] bytes, int at) {
        int word = 0;
        for (int i = 0; i < 4; i++) {
            word = word << 8 | bytes[at + i] & 255;
        }
        return word;
    }

    static int law(FoundThings x, String text) {
        feed(x, text);
        return x.law(text.length());
    }

    static FoundThings laws(FoundThings x, String... texts) {
        for (String text : texts) {
            law(x, text);
        }
        return x;
    }

    static int holds(FoundThings x, String text) {
        feed(x, text);
        return x.holds(text.length());
    }

    /** All unknowns but the first ones are told FALSE. */
    static void closeFrom(FoundThings x, int first) {
        for (int unknown = first; unknown < 10; unknown++) {
            x.know(unknown, 0);
        }
    }

    static void end() {
        System.out.println(calls + " answers, " + wrong + " wrong");
        if (wrong > 0) {
            System.exit(1);
        }
    }
}
