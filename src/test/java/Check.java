/** What the tests share: comparing answers, telling texts, and the end of a test. */
final class Check {
    /** A call that is due to throw. */
    interface Call {
        void make();
    }

    static final Class<? extends RuntimeException> INDEX = IndexOutOfBoundsException.class;
    static final Class<? extends RuntimeException> ARGUMENT = IllegalArgumentException.class;
    static final Class<? extends RuntimeException> STATE = IllegalStateException.class;
    static final Class<? extends RuntimeException> ELEMENT = java.util.NoSuchElementException.class;

    private static int calls = 0;
    private static int wrong = 0;

    private Check() {
    }

    static void due(String what, long want, long got) {
        calls++;
        if (got != want) {
            wrong++;
            System.out.println(what + " answered " + got + ", due is " + want);
        }
    }

    static void fails(String what, Class<? extends RuntimeException> want, Call call) {
        calls++;
        String got = "nothing";
        try {
            call.make();
        } catch (RuntimeException e) {
            got = e.getClass().getName();
        }
        if (!got.equals(want.getName())) {
            wrong++;
            System.out.println(what + " threw " + got + ", due is " + want.getName());
        }
    }

    static void feed(FoundThings x, String text) {
        byte[] bytes = new byte[(text.length() + 19) / 20 * 20];
        for (int i = 0; i < text.length(); i++) {
            bytes[i] = (byte) text.charAt(i);
        }
        for (int i = 0; i < bytes.length; i += 20) {
            x.feed(word(bytes, i), word(bytes, i + 4), word(bytes, i + 8), word(bytes, i + 12), word(bytes, i + 16));
        }
    }

    private static int word(byte[] bytes, int at) {
        int word = 0;
        for (int i = 0; i < 4; i++) {
            word = word << 8 | bytes[at + i] & 255;
        }
        return word;
    }

    static int law(FoundThings x, String text) {
        feed(x, text);
        return x.law(text.length());
    }

    static int holds(FoundThings x, String text) {
        feed(x, text);
        return x.holds(text.length());
    }

    /** All unknowns but the first ones are told FALSE. */
    static void closeFrom(FoundThings x, int first) {
        for (int unknown = first; unknown < 10; unknown++) {
            x.know(unknown, 0);
        }
    }

    static void end() {
        System.out.println(calls + " answers, " + wrong + " wrong");
        if (wrong > 0) {
            System.exit(1);
        }
    }
}
