import java.util.Random;

/** Random texts, most of them spoilt, each told to a new object and to a new oracle: the same fault, or none. */
public final class SpoiltTextsTest {
    private SpoiltTextsTest() {
    }

    public static void main(String[] args) {
        long seed = args.length > 0 ? Long.parseLong(args[0]) : 1;
        int texts = args.length > 1 ? Integer.parseInt(args[1]) : 20000;
        Random random = new Random(seed);
        int[] faults = new int[4];
        for (int i = 0; i < texts; i++) {
            TextMaker maker = new TextMaker(random, 10);
            boolean law = random.nextBoolean();
            String text = law ? maker.law() : maker.condition() + ";";
            text = random.nextInt(8) > 0 ? maker.spoil(text) : text;
            text = random.nextInt(3) == 0 ? deepen(random, text) : text;
            text = text.substring(0, Math.min(400, text.length()));
            int number = compare(law, text);
            faults[number < 0 ? number + 10 : 0]++;
        }
        for (int number = 0; number < 4; number++) {
            Check.due("texts of fault " + number + " were many", 1, faults[number] > texts / 100 ? 1 : 0);
        }
        Check.end();
    }

    private static String deepen(Random random, String text) {
        String[] deep = {"[[[[[[", "((((((", "not not not not not not ", "not[not[not[", "[((((((", "99999", "u1;"};
        if (random.nextInt(4) == 0) {
            return "crown;".repeat(9) + text;
        }
        int at = Math.max(text.indexOf(random.nextBoolean() ? "if " : "or "), text.indexOf("and "));
        at = at < 0 ? 0 : text.indexOf(' ', at) + 1;
        return text.substring(0, at) + deep[random.nextInt(deep.length)] + text.substring(at);
    }

    private static int compare(boolean law, String text) {
        FoundThings x = new FoundThings();
        Check.feed(x, text);
        int got = law ? x.law(text.length()) : x.holds(text.length());
        int number = 0;
        int place = -1;
        try {
            OracleText oracle = new OracleText(text);
            if (law) {
                oracle.law();
            } else {
                oracle.condition();
            }
        } catch (OracleText.Fault fault) {
            number = fault.number;
            place = fault.place;
        }
        Check.due("fault of " + text, number == 0 ? law ? 0 : 1 : number - 10, got);
        Check.due("place in " + text, place, x.fault());
        return number == 0 ? 0 : number - 10;
    }
}
