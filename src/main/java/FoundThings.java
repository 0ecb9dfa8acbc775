import java.util.NoSuchElementException;

/**
 * Whose is what was found, by laws told as texts, in each world that may be.
 *
 * A set of worlds is held as 1,024 bits in 16 longs: no name of a find hangs on the world, so that a
 * condition is worked out once for all worlds, and not once for each.
 */
public final class FoundThings {
    public static final int NONE = -1;

    private static final int UNKNOWNS = 10;
    private static final int WORLDS = 1024;
    private static final int WORDS = 16;
    private static final int MOST_BYTES = 400;
    private static final int MOST_RULES = 12;
    private static final int MOST_OPEN = 6;
    private static final int MOST_NUMBER = 9999;
    private static final int MOST_LAWS = 3;
    private static final int MOST_CONDITIONS = 8;
    private static final int MOST_PERSONS = 16;
    private static final int MOST_FINDS = 8;
    private static final int MOST_HOLDS = 6;
    private static final int MOST_CLAIMS = 24;
    private static final int MOST_PASSINGS = 40;
    private static final int MOST_IMAGES = 3;
    private static final int LAST_DAY = 9999;
    private static final int PLACES = 4;
    private static final int WAYS = 6;
    private static final int MARKS = 12;
    private static final int ALL_MARKS = 4095;
    private static final int WHOS = 5;
    private static final int OWNER = 1;
    private static final int OPEN = 2;
    private static final int LEAST_FIND_WORTH = 60;

    /** All words of texts: those of WHO, then the NAMES, then the others. */
    private static final String ALL_WORDS =
            "finder owner ground halves crown way place worth walled marks rare own age cried claims cry if or and not";
    private static final int FIRST_NAME = WHOS;
    private static final int NAMES = 10;
    private static final int WORD_CRY = FIRST_NAME + NAMES;
    private static final int WORD_IF = WORD_CRY + 1;
    private static final int WORD_OR = WORD_CRY + 2;
    private static final int WORD_AND = WORD_CRY + 3;
    private static final int WORD_NOT = WORD_CRY + 4;
    private static final int WAY_BIT = 1;
    private static final int WORTH_BIT = 4;
    /** The names that hang on the place: place, walled, own. */
    private static final int PLACE_BITS = 2 | 8 | 64;
    private static final int[] NO_NAMES = {0, 0, 0, 0, 0, 0, 0, 0, 0, 0};

    /** Which of 64 worlds in a row have UNKNOWN 0 to 5 TRUE; the others are alike in a whole long. */
    private static final long[] TRUE_BITS = {
        0xAAAAAAAAAAAAAAAAL, 0xCCCCCCCCCCCCCCCCL, 0xF0F0F0F0F0F0F0F0L,
        0xFF00FF00FF00FF00L, 0xFFFF0000FFFF0000L, 0xFFFFFFFF00000000L};

    private static final int OP_NUMBER = 0;
    private static final int OP_NAME = 1;
    private static final int OP_UNKNOWN = 2;
    private static final int OP_NOT = 3;
    private static final int OP_AND = 4;
    private static final int OP_OR = 5;
    private static final int OP_PLUS = 6;
    private static final int OP_MINUS = 7;
    private static final int OP_LESS = 8;
    private static final int OP_MORE = 9;
    private static final int OP_SAME = 10;
    /** An operation and its operand (9,999 at most) share an int. */
    private static final int OPERAND_BITS = 14;
    private static final int OPERAND_MASK = (1 << OPERAND_BITS) - 1;

    private final Reader reader = new Reader();
    private final Law[] laws = new Law[MOST_LAWS];
    private int lawCount;
    private final Told told = new Told();
    private final Told[] images = new Told[MOST_IMAGES];
    private int imageCount;

    private final Judge judge = new Judge();
    private final Verdict verdict = new Verdict();
    private final Verdict otherVerdict = new Verdict();
    private final Riddle riddle = new Riddle();
    private final long[] worldSet = new long[WORDS];
    private final long[] weights = new long[WORLDS];
    private final int[] names = new int[NAMES];
    private final Find probe = new Find();

    public FoundThings() {
        for (int i = 0; i < MOST_LAWS; i++) {
            laws[i] = new Law();
        }
        for (int i = 0; i < MOST_IMAGES; i++) {
            images[i] = new Told();
        }
    }

    // ---- texts

    public int feed(int a, int b, int c, int d, int e) {
        if (reader.tapeBytes + 20 > MOST_BYTES) {
            return NONE;
        }
        reader.put(a);
        reader.put(b);
        reader.put(c);
        reader.put(d);
        reader.put(e);
        return reader.tapeBytes;
    }

    public int law(int n) throws IllegalArgumentException {
        takeTape(n);
        if (lawCount >= MOST_LAWS) {
            return -1;
        }
        if (!reader.readLaw(n, laws[lawCount])) {
            return reader.faultNumber - 10;
        }
        lawCount++;
        return lawCount - 1;
    }

    public int holds(int n) throws IllegalArgumentException {
        takeTape(n);
        if (told.conditions >= MOST_CONDITIONS) {
            return -1;
        }
        if (!reader.readCondition(n)) {
            return reader.faultNumber - 10;
        }
        judge.narrow(reader.condition, NO_NAMES, told.allowed);
        told.conditions++;
        return told.conditions;
    }

    private void takeTape(int n) {
        if (n < 0 || n > reader.tapeBytes) {
            throw new IllegalArgumentException("not that many bytes on the tape");
        }
        reader.empty();
    }

    public int fault() {
        return reader.faultPlace;
    }

    // ---- what is not known

    public int know(int unknown, int is) throws IndexOutOfBoundsException, IllegalArgumentException {
        testUnknown(unknown);
        testRange(is, 0, OPEN);
        int was = told.known[unknown];
        told.known[unknown] = is;
        return was;
    }

    public int weigh(int unknown, int v) throws IndexOutOfBoundsException, IllegalArgumentException {
        testUnknown(unknown);
        testRange(v, 1, 9);
        int was = told.weight[unknown];
        told.weight[unknown] = v;
        return was;
    }

    private static void testUnknown(int unknown) {
        if (unknown < 0 || unknown >= UNKNOWNS) {
            throw new IndexOutOfBoundsException("no such unknown");
        }
    }

    private static void testRange(int value, int least, int most) {
        if (value < least || value > most) {
            throw new IllegalArgumentException("a number that can't be told");
        }
    }

    public int worlds() {
        fillWorldSet();
        int many = 0;
        for (int i = 0; i < WORDS; i++) {
            many += Long.bitCount(worldSet[i]);
        }
        return many;
    }

    public int world(int k) {
        fillWorldSet();
        int before = 0;
        for (int world = 0; world < WORLDS; world++) {
            if (hasWorld(worldSet, 0, world)) {
                if (before == k) {
                    return world;
                }
                before++;
            }
        }
        return NONE;
    }

    public long all() {
        fillWorldSet();
        return weightOf(worldSet, 0);
    }

    private void fillWorldSet() {
        for (int i = 0; i < WORDS; i++) {
            long bits = told.allowed[i];
            for (int unknown = 0; unknown < UNKNOWNS; unknown++) {
                if (told.known[unknown] != OPEN) {
                    long isTrue = trueBits(unknown, i);
                    bits &= told.known[unknown] == 1 ? isTrue : ~isTrue;
                }
            }
            worldSet[i] = bits;
        }
    }

    /** The worlds of one long of a set in which an UNKNOWN is TRUE. */
    private static long trueBits(int unknown, int word) {
        if (unknown >= 0 && unknown < TRUE_BITS.length) {
            return TRUE_BITS[unknown];
        }
        return (word >> (unknown - TRUE_BITS.length) & 1) == 1 ? -1L : 0L;
    }

    private static boolean hasWorld(long[] sets, int row, int world) {
        int at = row * WORDS + (world >> 6);
        return at >= 0 && at < sets.length && (sets[at] >> (world & 63) & 1L) == 1L;
    }

    private long weightOf(long[] sets, int row) {
        fillWeights();
        long sum = 0;
        for (int world = 0; world < WORLDS; world++) {
            if (hasWorld(sets, row, world)) {
                sum += weights[world];
            }
        }
        return sum;
    }

    /** Each UNKNOWN doubles the worlds that are weighed; one that is told weighs nothing either way. */
    private void fillWeights() {
        weights[0] = 1;
        for (int unknown = 0; unknown < UNKNOWNS; unknown++) {
            boolean open = told.known[unknown] == OPEN;
            int ifTrue = open ? told.weight[unknown] : 1;
            int ifFalse = open ? 10 - told.weight[unknown] : 1;
            int half = 1 << unknown;
            for (int world = 0; world < half && world + half < WORLDS; world++) {
                weights[world + half] = weights[world] * ifTrue;
                weights[world] = weights[world] * ifFalse;
            }
        }
    }

    // ---- persons, places, days

    public int person(int kind, int marks) throws IllegalArgumentException {
        testRange(kind, 0, 1);
        testRange(marks, 0, ALL_MARKS);
        if (told.personCount >= MOST_PERSONS) {
            return -1;
        }
        told.persons[told.personCount].begin(kind, marks);
        told.personCount++;
        return told.personCount - 1;
    }

    public int passes(int person, int place, int v) throws NoSuchElementException, IllegalArgumentException {
        Person passer = personOf(person);
        testRange(place, 0, PLACES - 1);
        testRange(v, 0, 99);
        int was = passer.passes[place];
        passer.passes[place] = v;
        return was;
    }

    public int ground(int place, boolean walled, int person) throws IllegalArgumentException, NoSuchElementException {
        testRange(place, 0, PLACES - 1);
        if (person != NONE) {
            personOf(person);
        }
        int was = told.ground[place];
        told.walled[place] = walled ? 1 : 0;
        told.ground[place] = person;
        return was;
    }

    private Person personOf(int person) {
        if (person < 0 || person >= told.personCount || person >= MOST_PERSONS) {
            throw new NoSuchElementException("no such person");
        }
        return told.persons[person];
    }

    public int days(int n) throws IllegalArgumentException, IllegalStateException {
        testRange(n, 0, 999);
        if (told.today + n > LAST_DAY) {
            throw new IllegalStateException("behind the last day");
        }
        told.today += n;
        return told.today;
    }

    // ---- finds

    public int find(int way, int place, int worth, int marks, int keep) throws IllegalArgumentException {
        testRange(way, 0, WAYS - 1);
        testRange(place, 0, PLACES - 1);
        testRange(worth, 1, MOST_NUMBER);
        testRange(marks, 0, ALL_MARKS);
        testRange(keep, 0, 99);
        if (told.findCount >= MOST_FINDS) {
            return -1;
        }
        Find found = told.finds[told.findCount];
        found.begin(way, place, worth, told.today);
        found.marks = marks;
        found.keep = keep;
        told.findCount++;
        return told.findCount - 1;
    }

    private Find findOf(int find) {
        if (find < 0 || find >= told.findCount || find >= MOST_FINDS) {
            throw new IndexOutOfBoundsException("no such find");
        }
        return told.finds[find];
    }

    public int name(int find, int which) throws IndexOutOfBoundsException, IllegalArgumentException {
        Find found = findOf(find);
        testRange(which, 0, NAMES - 1);
        return told.nameOf(found, find, which);
    }

    private void fillNames(Find found, int find) {
        for (int which = 0; which < NAMES; which++) {
            names[which] = told.nameOf(found, find, which);
        }
    }

    public int hold(int find, int person, int how, int time)
            throws IndexOutOfBoundsException, NoSuchElementException, IllegalArgumentException {
        Find found = findOf(find);
        personOf(person);
        testRange(how, 0, 2);
        testRange(time, 0, 999);
        return found.addHold(person, how, time);
    }

    public int finders(int find) throws IndexOutOfBoundsException {
        return findOf(find).finderBits();
    }

    // ---- whose it is

    public int whose(int find, int law, int world, int what) throws IndexOutOfBoundsException, IllegalArgumentException {
        Find found = findOf(find);
        Law rules = lawOf(law);
        testRange(world, 0, WORLDS - 1);
        testRange(what, 0, 2);
        fillNames(found, find);
        for (int i = 0; i < WORDS; i++) {
            worldSet[i] = i == world >> 6 ? 1L << (world & 63) : 0L;
        }
        judge.decide(rules, names, worldSet, verdict);
        if (what == 0) {
            return verdict.rule;
        }
        return what == 1 ? verdict.whoIn(world) : verdict.cry;
    }

    private Law lawOf(int law) {
        if (law < 0 || law >= lawCount || law >= MOST_LAWS) {
            throw new IllegalArgumentException("no such law");
        }
        return laws[law];
    }

    /** The verdict is then on a FIND by a LAW in all WORLDS. */
    private void decideFind(int find, int law) {
        Find found = findOf(find);
        Law rules = lawOf(law);
        fillNames(found, find);
        fillWorldSet();
        judge.decide(rules, names, worldSet, verdict);
    }

    public int sure(int find, int law) throws IndexOutOfBoundsException, IllegalArgumentException {
        decideFind(find, law);
        int bits = verdict.whoBits();
        if (bits == 0) {
            return -2;
        }
        for (int who = 0; who < WHOS; who++) {
            if (bits == 1 << who) {
                return who;
            }
        }
        return NONE;
    }

    public int may(int find, int law) throws IndexOutOfBoundsException, IllegalArgumentException {
        decideFind(find, law);
        return verdict.whoBits();
    }

    public long part(int find, int law, int who) throws IndexOutOfBoundsException, IllegalArgumentException {
        decideFind(find, law);
        testRange(who, 0, WHOS - 1);
        return weightOf(verdict.who, who);
    }

    public int hangs(int find, int law) throws IndexOutOfBoundsException, IllegalArgumentException {
        pose(find, law);
        return riddle.hanging();
    }

    public int settles(int find, int law) throws IndexOutOfBoundsException, IllegalArgumentException {
        pose(find, law);
        return riddle.leastSettling();
    }

    public int questions(int find, int law) throws IndexOutOfBoundsException, IllegalArgumentException {
        pose(find, law);
        return riddle.fewestQuestions();
    }

    public int ask(int find, int law) throws IndexOutOfBoundsException, IllegalArgumentException {
        pose(find, law);
        return riddle.firstQuestion();
    }

    private void pose(int find, int law) {
        decideFind(find, law);
        int open = 0;
        int isTrue = 0;
        for (int unknown = 0; unknown < UNKNOWNS; unknown++) {
            if (told.known[unknown] == OPEN) {
                open |= 1 << unknown;
            } else if (told.known[unknown] == 1) {
                isTrue |= 1 << unknown;
            }
        }
        riddle.pose(verdict, open, isTrue);
    }

    // ---- claims

    public int claim(int find, int person, int marks)
            throws IndexOutOfBoundsException, NoSuchElementException, IllegalArgumentException {
        findOf(find);
        personOf(person);
        testRange(marks, 1, ALL_MARKS);
        if (told.claimCount >= MOST_CLAIMS) {
            return -1;
        }
        told.claims[told.claimCount].begin(find, person, marks);
        told.claimCount++;
        return told.claimCount - 1;
    }

    public int claimed(int claim, int what) throws IndexOutOfBoundsException, IllegalArgumentException {
        if (claim < 0 || claim >= told.claimCount || claim >= MOST_CLAIMS) {
            throw new IndexOutOfBoundsException("no such claim");
        }
        Claim one = told.claims[claim];
        switch (what) {
            case 0:
                return one.find;
            case 1:
                return one.person;
            case 2:
                return one.marks;
            case 3:
                return told.fits(one) ? 1 : 0;
            case 4:
                return told.havers(one.marks);
            case 5:
                return told.fits(one) && told.havers(one.marks) == 1 ? 1 : 0;
            default:
                throw new IllegalArgumentException("a claim tells no such thing");
        }
    }

    public int best(int find) throws IndexOutOfBoundsException {
        findOf(find);
        int fewest = MOST_PERSONS + 1;
        int person = NONE;
        for (int i = 0; i < told.claimCount && i < MOST_CLAIMS; i++) {
            Claim one = told.claims[i];
            if (one.find == find && told.fits(one)) {
                int have = told.havers(one.marks);
                if (have < fewest) {
                    fewest = have;
                    person = one.person;
                } else if (have == fewest && person != one.person) {
                    person = -2;
                }
            }
        }
        return person;
    }

    public int added(int find, int marks) throws IndexOutOfBoundsException, IllegalArgumentException {
        Find found = findOf(find);
        testRange(marks, 0, ALL_MARKS);
        int fewest = MOST_PERSONS + 1;
        int best = NONE;
        for (int mark = 0; mark < MARKS; mark++) {
            int bit = 1 << mark;
            if ((found.marks & ~marks & bit) != 0 && told.havers(marks | bit) < fewest) {
                fewest = told.havers(marks | bit);
                best = mark;
            }
        }
        return best;
    }

    // ---- crying, keeping, what is left

    public int cry(int find) throws IndexOutOfBoundsException {
        Find found = findOf(find);
        if (found.criedOn == told.today) {
            return 0;
        }
        found.criedOn = told.today;
        found.cried++;
        return 1;
    }

    public int due(int find, int law) throws IndexOutOfBoundsException, IllegalArgumentException {
        decideFind(find, law);
        return dueByVerdict(find);
    }

    private int dueByVerdict(int find) {
        return Math.max(0, verdict.cry - findOf(find).cried);
    }

    public int left(int find, int day) throws IndexOutOfBoundsException, IllegalArgumentException {
        Find found = findOf(find);
        testRange(day, found.day, LAST_DAY);
        return found.leftOn(day);
    }

    public int gone(int find) throws IndexOutOfBoundsException {
        Find found = findOf(find);
        if (found.keep <= 0) {
            return NONE;
        }
        int day = found.day + (found.worth + found.keep - 1) / found.keep;
        return day <= LAST_DAY ? day : NONE;
    }

    public int late(int find, int law) throws IndexOutOfBoundsException, IllegalArgumentException {
        decideFind(find, law);
        int bits = verdict.whoBits();
        int rest = findOf(find).leftOn(told.today);
        if (bits == 1 << OWNER) {
            return rest;
        }
        boolean mayBeOwner = (bits & 1 << OWNER) != 0;
        return mayBeOwner || dueByVerdict(find) > 0 ? rest / 2 : 0;
    }

    // ---- things passed on

    public int pass(int find, int from, int to, int price)
            throws IndexOutOfBoundsException, NoSuchElementException, IllegalArgumentException {
        Find found = findOf(find);
        personOf(from);
        personOf(to);
        testRange(price, 0, MOST_NUMBER);
        if (told.passingCount >= MOST_PASSINGS) {
            return -1;
        }
        if (from == to || (found.hadBy() & 1 << from) == 0) {
            return -2;
        }
        told.passings[told.passingCount].begin(find, from, to, price);
        told.passingCount++;
        found.holder = to;
        return to;
    }

    public int has(int find) throws IndexOutOfBoundsException {
        return findOf(find).hadBy();
    }

    public boolean away(int person, boolean is) throws NoSuchElementException {
        Person one = personOf(person);
        boolean was = one.gone;
        one.gone = is;
        return was;
    }

    public int loss(int find, int person) throws IndexOutOfBoundsException, NoSuchElementException {
        findOf(find);
        personOf(person);
        int sum = 0;
        for (int i = 0; i < told.passingCount && i < MOST_PASSINGS; i++) {
            Passing one = told.passings[i];
            if (one.find == find && personOf(one.from).gone) {
                sum += one.to == person ? one.price : 0;
                sum -= one.from == person ? one.price : 0;
            }
        }
        return sum;
    }

    // ---- two laws beside each other

    public int beside(int law, int other) throws IllegalArgumentException {
        Law one = lawOf(law);
        Law two = lawOf(other);
        fillWorldSet();
        int many = 0;
        for (int i = 0; i < told.findCount && i < MOST_FINDS; i++) {
            if (partAt(told.finds[i], i, one, two)) {
                many++;
            }
        }
        return many;
    }

    /** Whether two laws part at a find in the worlds that stand in worldSet. */
    private boolean partAt(Find found, int find, Law one, Law two) {
        fillNames(found, find);
        judge.decide(one, names, worldSet, verdict);
        judge.decide(two, names, worldSet, otherVerdict);
        return verdict.partsFrom(otherVerdict);
    }

    /** What neither law looks at need not be tried but in its least form. */
    public int least(int law, int other, int what) throws IllegalArgumentException {
        Law one = lawOf(law);
        Law two = lawOf(other);
        testRange(what, 0, 2);
        fillWorldSet();
        int uses = one.uses | two.uses;
        int lastWorth = (uses & WORTH_BIT) != 0 ? LEAST_FIND_WORTH : 1;
        int lastWay = (uses & WAY_BIT) != 0 ? WAYS - 1 : 0;
        int lastPlace = (uses & PLACE_BITS) != 0 ? PLACES - 1 : 0;
        for (int worth = 1; worth <= lastWorth; worth++) {
            for (int way = 0; way <= lastWay; way++) {
                for (int place = 0; place <= lastPlace; place++) {
                    probe.begin(way, place, worth, told.today);
                    if (partAt(probe, NONE, one, two)) {
                        return what == 0 ? worth : what == 1 ? way : place;
                    }
                }
            }
        }
        return NONE;
    }

    // ---- images

    public int image() {
        if (imageCount >= MOST_IMAGES) {
            return -1;
        }
        images[imageCount].copy(told);
        imageCount++;
        return imageCount;
    }

    public int restore() {
        if (imageCount <= 0 || imageCount > MOST_IMAGES) {
            return -1;
        }
        imageCount--;
        told.copy(images[imageCount]);
        return imageCount;
    }

    public int count(int what) {
        switch (what) {
            case 0:
                return lawCount;
            case 1:
                return told.conditions;
            case 2:
                return told.openUnknowns();
            case 3:
                return told.personCount;
            case 4:
                return told.today;
            case 5:
                return told.findCount;
            case 6:
                return told.claimCount;
            case 7:
                return told.passingCount;
            case 8:
                return imageCount;
            case 9:
                return reader.tapeBytes;
            default:
                return NONE;
        }
    }

    /** A law as it was read: its rules, each with its condition as operations in the order of working. */
    static final class Law {
        private int rules;
        private final int[] who = new int[MOST_RULES];
        private final int[] cries = new int[MOST_RULES];
        private final int[] ends = new int[MOST_RULES];
        private final int[] code = new int[MOST_BYTES];
        private int codeLength;
        private int uses;

        void clear() {
            rules = 0;
            codeLength = 0;
            uses = 0;
        }

        void addRule(int whoseItIs, int days) {
            if (rules < MOST_RULES) {
                who[rules] = whoseItIs;
                cries[rules] = days;
                ends[rules] = codeLength;
                rules++;
            }
        }

        /** An operation of the latest rule; each came from a byte of the text at least, so all have room. */
        void addCode(int operation, int operand) {
            if (codeLength < MOST_BYTES && rules > 0) {
                code[codeLength] = operation << OPERAND_BITS | operand;
                codeLength++;
                ends[rules - 1] = codeLength;
            }
        }

        void addUse(int name) {
            uses |= 1 << name;
        }

        private int startOf(int rule) {
            return rule > 0 && rule <= MOST_RULES ? ends[rule - 1] : 0;
        }

        private int endOf(int rule) {
            return rule >= 0 && rule < MOST_RULES ? Math.min(ends[rule], MOST_BYTES) : 0;
        }
    }

    /** Reads a text from the left, up to its first fault, and makes a law of it. */
    static final class Reader {
        private static final int END = 0;
        private static final int WORD = 1;
        private static final int DIGITS = 2;
        private static final int UNKNOWN = 3;
        private static final int SIGN = 4;

        private final byte[] tape = new byte[MOST_BYTES];
        private int tapeBytes;
        private int length;

        /** The text in pieces, each with the place of its first byte; the last one is its end. */
        private final int[] kinds = new int[MOST_BYTES + 1];
        private final int[] values = new int[MOST_BYTES + 1];
        private final int[] places = new int[MOST_BYTES + 1];
        private int pieces;

        /** The piece that is to be read next. */
        private int next;
        private int kind;
        private int value;
        private int open;
        private int faultNumber;
        private int faultPlace = NONE;
        /** A condition is read as the only rule of a law. */
        private final Law condition = new Law();
        private Law law = condition;

        void put(int number) {
            for (int shift = 24; shift >= 0 && tapeBytes < MOST_BYTES; shift -= 8) {
                tape[tapeBytes] = (byte) (number >> shift);
                tapeBytes++;
            }
        }

        /** The bytes themselves stay till others come, so that they can still be read. */
        void empty() {
            tapeBytes = 0;
            faultPlace = NONE;
        }

        boolean readLaw(int n, Law into) {
            start(n, into);
            for (int i = 0; i <= MOST_RULES && kind != END; i++) {
                if (!readRule()) {
                    return false;
                }
            }
            return true;
        }

        boolean readCondition(int n) {
            start(n, condition);
            law.addRule(OWNER, 0);
            if (!readOr() || !readSign(';')) {
                return false;
            }
            return kind == END || refuse(1);
        }

        private void start(int n, Law into) {
            length = Math.min(n, MOST_BYTES);
            cut();
            open = 0;
            law = into;
            law.clear();
            next = NONE;
            goOn();
        }

        /** The fault stands at what was to be read next. */
        private boolean refuse(int number) {
            faultNumber = number;
            faultPlace = places[next];
            return false;
        }

        private boolean readRule() {
            int who = value;
            if (kind != WORD || who < 0 || who >= WHOS) {
                return refuse(1);
            }
            if (law.rules >= MOST_RULES) {
                return refuse(3);
            }
            goOn();
            int days = 0;
            if (isWord(WORD_CRY)) {
                goOn();
                if (!needNumber()) {
                    return false;
                }
                days = value;
                goOn();
            }
            law.addRule(who, days);
            if (isWord(WORD_IF)) {
                goOn();
                if (!readOr()) {
                    return false;
                }
            }
            return readSign(';');
        }

        private boolean readOr() {
            if (!readAnd()) {
                return false;
            }
            for (int i = 0; i < MOST_BYTES && isWord(WORD_OR); i++) {
                goOn();
                if (!readAnd()) {
                    return false;
                }
                law.addCode(OP_OR, 0);
            }
            return true;
        }

        private boolean readAnd() {
            if (!readBasic()) {
                return false;
            }
            for (int i = 0; i < MOST_BYTES && isWord(WORD_AND); i++) {
                goOn();
                if (!readBasic()) {
                    return false;
                }
                law.addCode(OP_AND, 0);
            }
            return true;
        }

        private boolean readBasic() {
            if (isWord(WORD_NOT)) {
                return readNot();
            }
            if (isSign('[')) {
                return readBracket();
            }
            if (kind == UNKNOWN) {
                law.addCode(OP_UNKNOWN, value);
                goOn();
                return true;
            }
            return readComparison();
        }

        private boolean readNot() {
            if (!mayOpen()) {
                return false;
            }
            goOn();
            if (!readBasic()) {
                return false;
            }
            open--;
            law.addCode(OP_NOT, 0);
            return true;
        }

        private boolean readBracket() {
            if (!mayOpen()) {
                return false;
            }
            goOn();
            if (!readOr() || !readSign(']')) {
                return false;
            }
            open--;
            return true;
        }

        private boolean readComparison() {
            if (!readSum()) {
                return false;
            }
            int operation = isSign('<') ? OP_LESS : isSign('>') ? OP_MORE : OP_SAME;
            if (operation == OP_SAME && !isSign('=')) {
                return refuse(1);
            }
            goOn();
            if (!readSum()) {
                return false;
            }
            law.addCode(operation, 0);
            return true;
        }

        private boolean readSum() {
            if (!readTerm()) {
                return false;
            }
            for (int i = 0; i < MOST_BYTES && (isSign('+') || isSign('-')); i++) {
                int operation = isSign('+') ? OP_PLUS : OP_MINUS;
                goOn();
                if (!readTerm()) {
                    return false;
                }
                law.addCode(operation, 0);
            }
            return true;
        }

        private boolean readTerm() {
            if (isSign('(')) {
                return readParenthesis();
            }
            int name = value - FIRST_NAME;
            if (kind == WORD && name >= 0 && name < NAMES) {
                law.addCode(OP_NAME, name);
                law.addUse(name);
            } else if (needNumber()) {
                law.addCode(OP_NUMBER, value);
            } else {
                return false;
            }
            goOn();
            return true;
        }

        private boolean readParenthesis() {
            if (!mayOpen()) {
                return false;
            }
            goOn();
            if (!readSum() || !readSign(')')) {
                return false;
            }
            open--;
            return true;
        }

        private boolean mayOpen() {
            if (open >= MOST_OPEN) {
                return refuse(3);
            }
            open++;
            return true;
        }

        private boolean readSign(char sign) {
            if (!isSign(sign)) {
                return refuse(1);
            }
            goOn();
            return true;
        }

        private boolean needNumber() {
            if (kind != DIGITS) {
                return refuse(1);
            }
            return value <= MOST_NUMBER || refuse(2);
        }

        private boolean isSign(char sign) {
            return kind == SIGN && value == sign;
        }

        private boolean isWord(int word) {
            return kind == WORD && value == word;
        }

        /** Behind the end there is nothing but the end. */
        private void goOn() {
            next = Math.max(0, Math.min(next + 1, Math.min(pieces - 1, MOST_BYTES)));
            kind = kinds[next];
            value = values[next];
        }

        /** Cuts the text into pieces; each takes a byte at least, and blanks belong to none. */
        private void cut() {
            pieces = 0;
            int at = 0;
            for (int i = 0; i < MOST_BYTES && at < length; i++) {
                int first = byteAt(at);
                if (first == ' ') {
                    at++;
                } else if (isLetter(first)) {
                    at = cutWord(at);
                } else if (isDigit(first)) {
                    at = cutDigits(at);
                } else {
                    addPiece(SIGN, first, at);
                    at++;
                }
            }
            addPiece(END, 0, length);
        }

        private void addPiece(int newKind, int newValue, int place) {
            if (pieces <= MOST_BYTES) {
                kinds[pieces] = newKind;
                values[pieces] = newValue;
                places[pieces] = place;
                pieces++;
            }
        }

        private int cutWord(int at) {
            int end = at;
            for (int i = 0; i < MOST_BYTES && isLetter(byteAt(end)); i++) {
                end++;
            }
            int behind = byteAt(end + 1);
            if (end - at == 1 && byteAt(at) == 'u' && isDigit(byteAt(end)) && !isDigit(behind) && !isLetter(behind)) {
                addPiece(UNKNOWN, byteAt(end) - '0', at);
                return end + 1;
            }
            addPiece(WORD, wordNumber(at, end), at);
            return end;
        }

        /** The place in the list of all words; NONE for what is none of them. */
        private int wordNumber(int at, int end) {
            int number = 0;
            int same = 0;
            int letters = 0;
            for (int i = 0; i <= ALL_WORDS.length(); i++) {
                if (i == ALL_WORDS.length() || ALL_WORDS.charAt(i) == ' ') {
                    if (same == letters && letters == end - at) {
                        return number;
                    }
                    number++;
                    same = 0;
                    letters = 0;
                } else {
                    same += byteAt(at + letters) == ALL_WORDS.charAt(i) ? 1 : 0;
                    letters++;
                }
            }
            return NONE;
        }

        /** A number too great stays just so: more digits must not wrap it into what is fine. */
        private int cutDigits(int at) {
            int end = at;
            int number = 0;
            for (int i = 0; i < MOST_BYTES && isDigit(byteAt(end)); i++) {
                number = Math.min(number * 10 + byteAt(end) - '0', MOST_NUMBER + 1);
                end++;
            }
            addPiece(DIGITS, number, at);
            return end;
        }

        /** Behind the end there is what is no letter, no digit, no blank. */
        private int byteAt(int place) {
            return place >= 0 && place < length && place < MOST_BYTES ? tape[place] & 255 : 0;
        }

        private static boolean isLetter(int sign) {
            return sign >= 'a' && sign <= 'z';
        }

        private static boolean isDigit(int sign) {
            return sign >= '0' && sign <= '9';
        }
    }

    /** What a law says in worlds: for each WHO the worlds with it. */
    static final class Verdict {
        private final long[] who = new long[WHOS * WORDS];
        /** The rule by which the latest worlds were given. */
        private int rule;
        private int cry;

        void clear() {
            for (int i = 0; i < who.length; i++) {
                who[i] = 0L;
            }
            rule = NONE;
            cry = 0;
        }

        int whoBits() {
            int bits = 0;
            for (int i = 0; i < who.length; i++) {
                if (who[i] != 0L) {
                    bits |= 1 << i / WORDS;
                }
            }
            return bits;
        }

        int whoIn(int world) {
            for (int i = 0; i < WHOS; i++) {
                if (hasWorld(who, i, world)) {
                    return i;
                }
            }
            return NONE;
        }

        boolean partsFrom(Verdict other) {
            for (int i = 0; i < who.length && i < other.who.length; i++) {
                if (who[i] != other.who[i]) {
                    return true;
                }
            }
            return false;
        }
    }

    /** Works out conditions in all worlds at once, and by them what a law says. */
    static final class Judge {
        /** Two sets for each bracket and two more are the most that wait at one time, and fewer numbers. */
        private static final int ROWS = 16;

        private final long[] sets = new long[ROWS * WORDS];
        private final int[] numbers = new int[ROWS];
        private final long[] undecided = new long[WORDS];
        private int setTop;
        private int numberTop;

        /** Leaves in a set the worlds in which a condition holds. */
        void narrow(Law condition, int[] names, long[] set) {
            workCondition(condition, 0, names);
            for (int i = 0; i < WORDS && i < set.length; i++) {
                set[i] &= sets[i];
            }
        }

        void decide(Law law, int[] names, long[] worlds, Verdict verdict) {
            verdict.clear();
            boolean some = false;
            for (int i = 0; i < WORDS && i < worlds.length; i++) {
                undecided[i] = worlds[i];
                some |= worlds[i] != 0L;
            }
            for (int rule = 0; rule < law.rules && rule < MOST_RULES && some; rule++) {
                workCondition(law, rule, names);
                if (give(verdict, law.who[rule])) {
                    verdict.rule = rule;
                    verdict.cry = Math.max(verdict.cry, law.cries[rule]);
                    some = anyUndecided();
                }
            }
            if (some) {
                pushAll(true);
                give(verdict, OWNER);
            }
        }

        /** The undecided worlds of the lowest set are given to a WHO: whether there were any. */
        private boolean give(Verdict verdict, int who) {
            boolean some = false;
            for (int i = 0; i < WORDS; i++) {
                long given = undecided[i] & sets[i];
                int at = who * WORDS + i;
                if (given != 0L && at >= 0 && at < verdict.who.length) {
                    verdict.who[at] |= given;
                    undecided[i] &= ~given;
                    some = true;
                }
            }
            return some;
        }

        private boolean anyUndecided() {
            for (int i = 0; i < WORDS; i++) {
                if (undecided[i] != 0L) {
                    return true;
                }
            }
            return false;
        }

        /** The lowest set is then the worlds in which a rule's condition holds: all, if it has none. */
        private void workCondition(Law law, int rule, int[] names) {
            setTop = 0;
            numberTop = 0;
            int start = law.startOf(rule);
            int end = law.endOf(rule);
            if (start >= end) {
                pushAll(true);
            }
            for (int i = start; i < end; i++) {
                step(law.code[i] >> OPERAND_BITS, law.code[i] & OPERAND_MASK, names);
            }
            setTop = 0;
        }

        private void step(int operation, int operand, int[] names) {
            switch (operation) {
                case OP_NUMBER:
                    pushNumber(operand);
                    break;
                case OP_NAME:
                    pushNumber(operand < names.length ? names[operand] : 0);
                    break;
                case OP_UNKNOWN:
                    pushUnknown(operand);
                    break;
                case OP_NOT:
                    turn();
                    break;
                case OP_AND:
                case OP_OR:
                    join(operation == OP_AND);
                    break;
                default:
                    reckon(operation, popNumber());
                    break;
            }
        }

        /** The right one is taken first, since it was put there last. */
        private void reckon(int operation, int right) {
            int left = popNumber();
            switch (operation) {
                case OP_PLUS:
                    pushNumber(left + right);
                    break;
                case OP_MINUS:
                    pushNumber(left - right);
                    break;
                case OP_LESS:
                    pushAll(left < right);
                    break;
                case OP_MORE:
                    pushAll(left > right);
                    break;
                default:
                    pushAll(left == right);
                    break;
            }
        }

        private void pushNumber(int number) {
            if (numberTop < ROWS) {
                numbers[numberTop] = number;
                numberTop++;
            }
        }

        private int popNumber() {
            if (numberTop <= 0) {
                return 0;
            }
            numberTop--;
            return numbers[numberTop];
        }

        private void pushAll(boolean worlds) {
            if (setTop < ROWS) {
                int row = setTop * WORDS;
                for (int i = 0; i < WORDS; i++) {
                    sets[row + i] = worlds ? -1L : 0L;
                }
                setTop++;
            }
        }

        private void pushUnknown(int unknown) {
            if (setTop < ROWS) {
                int row = setTop * WORDS;
                for (int i = 0; i < WORDS; i++) {
                    sets[row + i] = trueBits(unknown, i);
                }
                setTop++;
            }
        }

        private void turn() {
            if (setTop >= 1) {
                int row = (setTop - 1) * WORDS;
                for (int i = 0; i < WORDS; i++) {
                    sets[row + i] = ~sets[row + i];
                }
            }
        }

        private void join(boolean both) {
            if (setTop >= 2) {
                setTop--;
                int right = setTop * WORDS;
                int left = right - WORDS;
                for (int i = 0; i < WORDS; i++) {
                    sets[left + i] = both ? sets[left + i] & sets[right + i] : sets[left + i] | sets[right + i];
                }
            }
        }
    }

    /** What whose it is hangs on, and what must be asked. */
    static final class Riddle {
        /** By world: 0 no such world, else WHO and 1. */
        private final byte[] who = new byte[WORLDS];
        private final int[] seen = new int[WORLDS];
        private int looks;
        private int open;
        private int isTrue;

        /** The unknowns that tell worlds apart at all, the least first: no other is worth a question. */
        private final int[] telling = new int[UNKNOWNS];
        private int tellings;

        /**
         * A cube is what is left after some answers: a digit for each telling unknown, 0 FALSE, 1 TRUE, 2 not
         * asked. Of each cube: 0 no world, 1 to 5 one WHO and 1 in all, above that 5 and the questions it needs.
         */
        private byte[] cubes = new byte[1];
        private boolean filled;
        private final int[] powers = new int[UNKNOWNS];
        private final int[] digits = new int[UNKNOWNS];

        /** The cubes stay as they are, if nothing is other than it was in the riddle before. */
        void pose(Verdict verdict, int openUnknowns, int trueUnknowns) {
            boolean other = open != openUnknowns || isTrue != trueUnknowns;
            open = openUnknowns;
            isTrue = trueUnknowns;
            for (int world = 0; world < WORLDS; world++) {
                byte now = (byte) (verdict.whoIn(world) + 1);
                other |= who[world] != now;
                who[world] = now;
            }
            if (other) {
                filled = false;
                seekTelling();
            }
        }

        private void seekTelling() {
            tellings = 0;
            for (int unknown = 0; unknown < UNKNOWNS; unknown++) {
                if (tellings < UNKNOWNS && (open >> unknown & 1) == 1 && differs(1 << unknown, false)) {
                    telling[tellings] = unknown;
                    tellings++;
                }
            }
        }

        /** Whether WHO differs by one unknown alone; a world and none differ, too, unless both must be worlds. */
        private boolean differs(int bit, boolean inWorlds) {
            for (int world = 0; world < WORLDS; world++) {
                int other = world | bit;
                if (other != world && other < WORLDS && who[world] != who[other]
                        && (!inWorlds || who[world] != 0 && who[other] != 0)) {
                    return true;
                }
            }
            return false;
        }

        int hanging() {
            int bits = 0;
            for (int i = 0; i < tellings && i < UNKNOWNS; i++) {
                if (differs(1 << telling[i], true)) {
                    bits |= 1 << telling[i];
                }
            }
            return bits;
        }

        /** All that it hangs on must be in a settling set, and what tells nothing is not in the least one. */
        int leastSettling() {
            int needed = hanging();
            int useful = 0;
            for (int i = 0; i < tellings && i < UNKNOWNS; i++) {
                useful |= 1 << telling[i];
            }
            for (int size = Integer.bitCount(needed); size <= tellings; size++) {
                for (int set = needed; set <= useful; set++) {
                    if ((set & needed) == needed && (set & ~useful) == 0
                            && Integer.bitCount(set) == size && settling(set)) {
                        return set;
                    }
                }
            }
            return useful;
        }

        /** Each look has a number of its own, so that what earlier looks left needs no clearing. */
        private boolean settling(int set) {
            looks++;
            for (int world = 0; world < WORLDS; world++) {
                if (who[world] != 0) {
                    int key = world & set;
                    int seenNow = looks * 8 + who[world];
                    if (seen[key] / 8 == looks && seen[key] != seenNow) {
                        return false;
                    }
                    seen[key] = seenNow;
                }
            }
            return true;
        }

        int fewestQuestions() {
            fillCubes();
            return questionsIn(powerOf(tellings) - 1);
        }

        int firstQuestion() {
            int all = fewestQuestions();
            if (all == 0) {
                return NONE;
            }
            int root = powerOf(tellings) - 1;
            for (int i = 0; i < tellings && i < UNKNOWNS; i++) {
                if (questionsBy(root, i) == all) {
                    return telling[i];
                }
            }
            return NONE;
        }

        private static int powerOf(int exponent) {
            int power = 1;
            for (int i = 0; i < exponent && i < UNKNOWNS; i++) {
                power *= 3;
            }
            return power;
        }

        /** What follows from a cube by an answer has a lesser number, so that it is known already. */
        private void fillCubes() {
            if (filled) {
                return;
            }
            int many = powerOf(tellings);
            if (cubes.length < many) {
                cubes = new byte[many];
            }
            for (int i = 0; i < UNKNOWNS; i++) {
                powers[i] = powerOf(i);
                digits[i] = 0;
            }
            for (int cube = 0; cube < many && cube < cubes.length; cube++) {
                cubes[cube] = (byte) cubeValue(cube);
                countOn();
            }
            filled = true;
        }

        private void countOn() {
            for (int i = 0; i < UNKNOWNS; i++) {
                if (digits[i] < 2) {
                    digits[i]++;
                    return;
                }
                digits[i] = 0;
            }
        }

        private int cubeValue(int cube) {
            int free = firstFree();
            if (free == NONE) {
                return who[worldOfDigits()];
            }
            int ifFalse = valueAt(cube - 2 * powers[free]);
            int ifTrue = valueAt(cube - powers[free]);
            if (ifFalse == 0 || ifTrue == 0) {
                return ifFalse + ifTrue;
            }
            if (ifFalse == ifTrue && ifTrue <= WHOS) {
                return ifTrue;
            }
            int fewest = UNKNOWNS;
            for (int i = free; i < tellings && i < UNKNOWNS; i++) {
                if (digits[i] == 2) {
                    fewest = Math.min(fewest, questionsBy(cube, i));
                }
            }
            return WHOS + fewest;
        }

        private int firstFree() {
            for (int i = 0; i < tellings && i < UNKNOWNS; i++) {
                if (digits[i] == 2) {
                    return i;
                }
            }
            return NONE;
        }

        private int worldOfDigits() {
            int world = isTrue;
            for (int i = 0; i < tellings && i < UNKNOWNS; i++) {
                if (digits[i] == 1) {
                    world |= 1 << telling[i];
                }
            }
            return world & WORLDS - 1;
        }

        private int questionsBy(int cube, int first) {
            return 1 + Math.max(questionsIn(cube - 2 * powers[first]), questionsIn(cube - powers[first]));
        }

        private int questionsIn(int cube) {
            return cube >= 0 && cube < cubes.length ? Math.max(0, cubes[cube] - WHOS) : 0;
        }

        private int valueAt(int cube) {
            return cube >= 0 && cube < cubes.length ? cubes[cube] : 0;
        }
    }

    static final class Person {
        private int kind;
        private int marks;
        private final int[] passes = new int[PLACES];
        private boolean gone;

        void begin(int newKind, int newMarks) {
            kind = newKind;
            marks = newMarks;
            gone = false;
            for (int i = 0; i < PLACES; i++) {
                passes[i] = 0;
            }
        }

        void copy(Person other) {
            kind = other.kind;
            marks = other.marks;
            gone = other.gone;
            System.arraycopy(other.passes, 0, passes, 0, PLACES);
        }
    }

    static final class Find {
        private int way;
        private int place;
        private int worth;
        private int marks;
        private int keep;
        private int day;
        private int cried;
        private int criedOn = NONE;
        /** To whom it was passed on last; NONE: it never was. */
        private int holder = NONE;
        private int holds;
        private final int[] holdPerson = new int[MOST_HOLDS];
        private final int[] holdHow = new int[MOST_HOLDS];
        private final int[] holdTime = new int[MOST_HOLDS];

        void begin(int newWay, int newPlace, int newWorth, int today) {
            way = newWay;
            place = newPlace;
            worth = newWorth;
            day = today;
            marks = 0;
            keep = 0;
            cried = 0;
            criedOn = NONE;
            holder = NONE;
            holds = 0;
        }

        void copy(Find other) {
            begin(other.way, other.place, other.worth, other.day);
            marks = other.marks;
            keep = other.keep;
            cried = other.cried;
            criedOn = other.criedOn;
            holder = other.holder;
            holds = other.holds;
            System.arraycopy(other.holdPerson, 0, holdPerson, 0, MOST_HOLDS);
            System.arraycopy(other.holdHow, 0, holdHow, 0, MOST_HOLDS);
            System.arraycopy(other.holdTime, 0, holdTime, 0, MOST_HOLDS);
        }

        int addHold(int person, int how, int time) {
            if (holds >= MOST_HOLDS) {
                return -1;
            }
            holdPerson[holds] = person;
            holdHow[holds] = how;
            holdTime[holds] = time;
            holds++;
            return holds;
        }

        int finderBits() {
            int bits = 0;
            int how = NONE;
            int time = 0;
            for (int i = 0; i < holds && i < MOST_HOLDS; i++) {
                if (holdHow[i] > how || holdHow[i] == how && holdTime[i] < time) {
                    how = holdHow[i];
                    time = holdTime[i];
                    bits = 0;
                }
                if (holdHow[i] == how && holdTime[i] == time) {
                    bits |= 1 << holdPerson[i];
                }
            }
            return bits;
        }

        int hadBy() {
            return holder == NONE ? finderBits() : 1 << holder;
        }

        int leftOn(int someDay) {
            return Math.max(0, worth - keep * (someDay - day));
        }
    }

    static final class Claim {
        private int find;
        private int person;
        private int marks;

        void begin(int newFind, int newPerson, int newMarks) {
            find = newFind;
            person = newPerson;
            marks = newMarks;
        }
    }

    static final class Passing {
        private int find;
        private int from;
        private int to;
        private int price;

        void begin(int newFind, int newFrom, int newTo, int newPrice) {
            find = newFind;
            from = newFrom;
            to = newTo;
            price = newPrice;
        }
    }

    /** All that was told but laws: what an image keeps. */
    static final class Told {
        private int conditions;
        /** The worlds in which all conditions hold: their texts need not be kept, since all names are 0 in them. */
        private final long[] allowed = new long[WORDS];
        private final int[] known = new int[UNKNOWNS];
        private final int[] weight = new int[UNKNOWNS];
        private int today;
        private final int[] walled = new int[PLACES];
        private final int[] ground = new int[PLACES];
        private final Person[] persons = new Person[MOST_PERSONS];
        private int personCount;
        private final Find[] finds = new Find[MOST_FINDS];
        private int findCount;
        private final Claim[] claims = new Claim[MOST_CLAIMS];
        private int claimCount;
        private final Passing[] passings = new Passing[MOST_PASSINGS];
        private int passingCount;

        Told() {
            for (int i = 0; i < WORDS; i++) {
                allowed[i] = -1L;
            }
            for (int i = 0; i < UNKNOWNS; i++) {
                known[i] = OPEN;
                weight[i] = 5;
            }
            for (int i = 0; i < PLACES; i++) {
                ground[i] = NONE;
            }
            for (int i = 0; i < MOST_PERSONS; i++) {
                persons[i] = new Person();
            }
            for (int i = 0; i < MOST_FINDS; i++) {
                finds[i] = new Find();
            }
            for (int i = 0; i < MOST_CLAIMS; i++) {
                claims[i] = new Claim();
            }
            for (int i = 0; i < MOST_PASSINGS; i++) {
                passings[i] = new Passing();
            }
        }

        void copy(Told other) {
            conditions = other.conditions;
            today = other.today;
            personCount = other.personCount;
            findCount = other.findCount;
            claimCount = other.claimCount;
            passingCount = other.passingCount;
            System.arraycopy(other.allowed, 0, allowed, 0, WORDS);
            System.arraycopy(other.known, 0, known, 0, UNKNOWNS);
            System.arraycopy(other.weight, 0, weight, 0, UNKNOWNS);
            System.arraycopy(other.walled, 0, walled, 0, PLACES);
            System.arraycopy(other.ground, 0, ground, 0, PLACES);
            for (int i = 0; i < personCount && i < MOST_PERSONS; i++) {
                persons[i].copy(other.persons[i]);
            }
            for (int i = 0; i < findCount && i < MOST_FINDS; i++) {
                finds[i].copy(other.finds[i]);
            }
            for (int i = 0; i < claimCount && i < MOST_CLAIMS; i++) {
                Claim one = other.claims[i];
                claims[i].begin(one.find, one.person, one.marks);
            }
            for (int i = 0; i < passingCount && i < MOST_PASSINGS; i++) {
                Passing one = other.passings[i];
                passings[i].begin(one.find, one.from, one.to, one.price);
            }
        }

        int openUnknowns() {
            int many = 0;
            for (int i = 0; i < UNKNOWNS; i++) {
                if (known[i] == OPEN) {
                    many++;
                }
            }
            return many;
        }

        /** A NAME of a FIND; its number is asked for its claims alone, and NONE has none. */
        int nameOf(Find found, int number, int which) {
            switch (which) {
                case 0:
                    return found.way;
                case 1:
                    return found.place;
                case 2:
                    return found.worth;
                case 3:
                    return found.place >= 0 && found.place < PLACES ? walled[found.place] : 0;
                case 4:
                    return Integer.bitCount(found.marks);
                case 5:
                    return rareness(found.marks);
                case 6:
                    return ownHundredths(found.place);
                case 7:
                    return today - found.day;
                case 8:
                    return found.cried;
                default:
                    return claimsOf(number);
            }
        }

        private int rareness(int marks) {
            if (marks == 0) {
                return 0;
            }
            int fewest = MOST_PERSONS;
            for (int mark = 0; mark < MARKS; mark++) {
                if ((marks >> mark & 1) == 1) {
                    fewest = Math.min(fewest, havers(1 << mark));
                }
            }
            return fewest;
        }

        private int ownHundredths(int place) {
            int all = 0;
            int own = 0;
            for (int i = 0; i < personCount && i < MOST_PERSONS; i++) {
                int passes = place >= 0 && place < PLACES ? persons[i].passes[place] : 0;
                all += passes;
                own += persons[i].kind == 0 ? passes : 0;
            }
            return all > 0 ? own * 100 / all : 0;
        }

        private int claimsOf(int number) {
            int many = 0;
            for (int i = 0; i < claimCount && i < MOST_CLAIMS; i++) {
                if (claims[i].find == number) {
                    many++;
                }
            }
            return many;
        }

        /** How many persons have things with all of these marks. */
        int havers(int marks) {
            int many = 0;
            for (int i = 0; i < personCount && i < MOST_PERSONS; i++) {
                if ((persons[i].marks & marks) == marks) {
                    many++;
                }
            }
            return many;
        }

        boolean fits(Claim one) {
            if (one.find < 0 || one.find >= MOST_FINDS || one.person < 0 || one.person >= MOST_PERSONS) {
                return false;
            }
            return (finds[one.find].marks & persons[one.person].marks & one.marks) == one.marks;
        }
    }
}
