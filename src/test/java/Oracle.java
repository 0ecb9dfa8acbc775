import java.util.ArrayList;
import java.util.HashMap;
import java.util.List;
import java.util.Map;
import java.util.NoSuchElementException;
import java.util.function.ToIntFunction;

/** The document's face once more, slow and plain: each world for itself, each set and each order tried out. */
public final class Oracle {
    private static final class Find {
        int way, place, worth, marks, keep, day;
        List<Integer> criedOn = new ArrayList<>();
        List<int[]> holds = new ArrayList<>();
    }

    /** All that an image keeps; a copy is made of all of it. */
    private static final class State {
        List<ToIntFunction<OracleText.Place>> conditions = new ArrayList<>();
        int[] known = {2, 2, 2, 2, 2, 2, 2, 2, 2, 2};
        int[] weight = {5, 5, 5, 5, 5, 5, 5, 5, 5, 5};
        List<int[]> persons = new ArrayList<>();
        int[][] places = {{0, -1}, {0, -1}, {0, -1}, {0, -1}};
        int today = 0;
        List<Find> finds = new ArrayList<>();
        List<int[]> claims = new ArrayList<>();
        List<int[]> passed = new ArrayList<>();

        State copy() {
            State s = new State();
            s.conditions.addAll(conditions);
            s.known = known.clone();
            s.weight = weight.clone();
            persons.forEach(p -> s.persons.add(p.clone()));
            for (int i = 0; i < 4; i++) {
                s.places[i] = places[i].clone();
            }
            s.today = today;
            for (Find f : finds) {
                Find g = new Find();
                g.way = f.way;
                g.place = f.place;
                g.worth = f.worth;
                g.marks = f.marks;
                g.keep = f.keep;
                g.day = f.day;
                g.criedOn.addAll(f.criedOn);
                g.holds.addAll(f.holds);
                s.finds.add(g);
            }
            s.claims.addAll(claims);
            s.passed.addAll(passed);
            return s;
        }
    }

    private State s = new State();
    private final List<State> images = new ArrayList<>();
    private final List<List<OracleText.Rule>> laws = new ArrayList<>();
    private final StringBuilder tape = new StringBuilder();
    private int fault = -1;

    // A person is {kind, marks, passes of places 0 to 3, away}.

    private static void range(int v, int from, int to) {
        if (v < from || v > to) {
            throw new IllegalArgumentException();
        }
    }

    private Find theFind(int find) {
        if (find < 0 || find >= s.finds.size()) {
            throw new IndexOutOfBoundsException();
        }
        return s.finds.get(find);
    }

    private int[] thePerson(int person) {
        if (person < 0 || person >= s.persons.size()) {
            throw new NoSuchElementException();
        }
        return s.persons.get(person);
    }

    private List<OracleText.Rule> theLaw(int law) {
        range(law, 0, laws.size() - 1);
        return laws.get(law);
    }

    private static void theUnknown(int unknown) {
        if (unknown < 0 || unknown > 9) {
            throw new IndexOutOfBoundsException();
        }
    }

    public int feed(int a, int b, int c, int d, int e) {
        if (tape.length() + 20 > 400) {
            return -1;
        }
        for (int n : new int[] {a, b, c, d, e}) {
            for (int i = 0; i < 4; i++) {
                tape.append((char) (n >>> 24 - 8 * i & 255));
            }
        }
        return tape.length();
    }

    private String text(int n) {
        range(n, 0, tape.length());
        String text = tape.substring(0, n);
        tape.setLength(0);
        fault = -1;
        return text;
    }

    public int law(int n) {
        String text = text(n);
        if (laws.size() == 3) {
            return -1;
        }
        try {
            laws.add(new OracleText(text).law());
        } catch (OracleText.Fault f) {
            fault = f.place;
            return f.number - 10;
        }
        return laws.size() - 1;
    }

    public int holds(int n) {
        String text = text(n);
        if (s.conditions.size() == 8) {
            return -1;
        }
        try {
            s.conditions.add(new OracleText(text).condition());
        } catch (OracleText.Fault f) {
            fault = f.place;
            return f.number - 10;
        }
        return s.conditions.size();
    }

    public int fault() {
        return fault;
    }

    public int know(int unknown, int is) {
        theUnknown(unknown);
        range(is, 0, 2);
        int was = s.known[unknown];
        s.known[unknown] = is;
        return was;
    }

    public int weigh(int unknown, int v) {
        theUnknown(unknown);
        range(v, 1, 9);
        int was = s.weight[unknown];
        s.weight[unknown] = v;
        return was;
    }

    private List<Integer> allWorlds() {
        List<Integer> worlds = new ArrayList<>();
        for (int world = 0; world < 1024; world++) {
            boolean is = true;
            for (int i = 0; i < 10; i++) {
                is &= s.known[i] == 2 || s.known[i] == (world >> i & 1);
            }
            for (ToIntFunction<OracleText.Place> condition : s.conditions) {
                is = is && condition.applyAsInt(new OracleText.Place(world, new int[10])) == 1;
            }
            if (is) {
                worlds.add(world);
            }
        }
        return worlds;
    }

    private long weight(int world) {
        long weight = 1;
        for (int i = 0; i < 10; i++) {
            if (s.known[i] == 2) {
                weight *= (world >> i & 1) == 1 ? s.weight[i] : 10 - s.weight[i];
            }
        }
        return weight;
    }

    public int worlds() {
        return allWorlds().size();
    }

    public int world(int k) {
        List<Integer> worlds = allWorlds();
        return k >= 0 && k < worlds.size() ? worlds.get(k) : -1;
    }

    public long all() {
        return allWorlds().stream().mapToLong(this::weight).sum();
    }

    public int person(int kind, int marks) {
        range(kind, 0, 1);
        range(marks, 0, 4095);
        if (s.persons.size() == 16) {
            return -1;
        }
        s.persons.add(new int[] {kind, marks, 0, 0, 0, 0, 0});
        return s.persons.size() - 1;
    }

    public int passes(int person, int place, int v) {
        int[] p = thePerson(person);
        range(place, 0, 3);
        range(v, 0, 99);
        int was = p[2 + place];
        p[2 + place] = v;
        return was;
    }

    public int ground(int place, boolean walled, int person) {
        range(place, 0, 3);
        if (person != -1) {
            thePerson(person);
        }
        int was = s.places[place][1];
        s.places[place] = new int[] {walled ? 1 : 0, person};
        return was;
    }

    public int days(int n) {
        range(n, 0, 999);
        if (s.today + n > 9999) {
            throw new IllegalStateException();
        }
        return s.today += n;
    }

    public int find(int way, int place, int worth, int marks, int keep) {
        range(way, 0, 5);
        range(place, 0, 3);
        range(worth, 1, 9999);
        range(marks, 0, 4095);
        range(keep, 0, 99);
        if (s.finds.size() == 8) {
            return -1;
        }
        s.finds.add(newFind(way, place, worth, marks, keep));
        return s.finds.size() - 1;
    }

    private Find newFind(int way, int place, int worth, int marks, int keep) {
        Find f = new Find();
        f.way = way;
        f.place = place;
        f.worth = worth;
        f.marks = marks;
        f.keep = keep;
        f.day = s.today;
        return f;
    }

    private int have(int marks) {
        return (int) s.persons.stream().filter(p -> (p[1] & marks) == marks).count();
    }

    private int[] names(Find f) {
        int rare = 99;
        for (int i = 0; i < 12; i++) {
            if ((f.marks >> i & 1) == 1) {
                rare = Math.min(rare, have(1 << i));
            }
        }
        int all = s.persons.stream().mapToInt(p -> p[2 + f.place]).sum();
        int own = s.persons.stream().filter(p -> p[0] == 0).mapToInt(p -> p[2 + f.place]).sum();
        int number = s.finds.indexOf(f);
        int claims = (int) s.claims.stream().filter(c -> c[0] == number).count();
        return new int[] {f.way, f.place, f.worth, s.places[f.place][0], Integer.bitCount(f.marks),
            f.marks == 0 ? 0 : rare, all == 0 ? 0 : own * 100 / all, s.today - f.day, f.criedOn.size(), claims};
    }

    public int name(int find, int which) {
        Find f = theFind(find);
        range(which, 0, 9);
        return names(f)[which];
    }

    public int hold(int find, int person, int how, int time) {
        Find f = theFind(find);
        thePerson(person);
        range(how, 0, 2);
        range(time, 0, 999);
        if (f.holds.size() == 6) {
            return -1;
        }
        f.holds.add(new int[] {person, how, time});
        return f.holds.size();
    }

    public int finders(int find) {
        Find f = theFind(find);
        int how = f.holds.stream().mapToInt(h -> h[1]).max().orElse(0);
        int time = f.holds.stream().filter(h -> h[1] == how).mapToInt(h -> h[2]).min().orElse(0);
        int bits = 0;
        for (int[] h : f.holds) {
            bits |= h[1] == how && h[2] == time ? 1 << h[0] : 0;
        }
        return bits;
    }

    /** {RULE, WHO, CRY}. */
    private static int[] said(List<OracleText.Rule> law, int world, int[] names) {
        for (int i = 0; i < law.size(); i++) {
            if (law.get(i).condition().applyAsInt(new OracleText.Place(world, names)) == 1) {
                return new int[] {i, law.get(i).who(), law.get(i).cry()};
            }
        }
        return new int[] {-1, 1, 0};
    }

    public int whose(int find, int law, int world, int what) {
        Find f = theFind(find);
        List<OracleText.Rule> l = theLaw(law);
        range(world, 0, 1023);
        range(what, 0, 2);
        return said(l, world, names(f))[what];
    }

    /** WHO by WORLD. */
    private Map<Integer, Integer> who(int find, int law) {
        Find f = theFind(find);
        List<OracleText.Rule> l = theLaw(law);
        int[] names = names(f);
        Map<Integer, Integer> who = new java.util.TreeMap<>();
        for (int world : allWorlds()) {
            who.put(world, said(l, world, names)[1]);
        }
        return who;
    }

    public int sure(int find, int law) {
        Map<Integer, Integer> who = who(find, law);
        if (who.isEmpty()) {
            return -2;
        }
        int first = who.values().iterator().next();
        return who.values().stream().allMatch(w -> w == first) ? first : -1;
    }

    public int may(int find, int law) {
        return who(find, law).values().stream().mapToInt(w -> 1 << w).reduce(0, (a, b) -> a | b);
    }

    public long part(int find, int law, int who) {
        Map<Integer, Integer> all = who(find, law);
        range(who, 0, 4);
        return all.keySet().stream().filter(w -> all.get(w) == who).mapToLong(this::weight).sum();
    }

    private int open() {
        int bits = 0;
        for (int i = 0; i < 10; i++) {
            bits |= s.known[i] == 2 ? 1 << i : 0;
        }
        return bits;
    }

    public int hangs(int find, int law) {
        Map<Integer, Integer> who = who(find, law);
        int bits = 0;
        for (int world : who.keySet()) {
            for (int i = 0; i < 10; i++) {
                Integer other = who.get(world ^ 1 << i);
                if ((open() >> i & 1) == 1 && other != null && !other.equals(who.get(world))) {
                    bits |= 1 << i;
                }
            }
        }
        return bits;
    }

    private static boolean settling(Map<Integer, Integer> who, int set) {
        Map<Integer, Integer> seen = new HashMap<>();
        for (Map.Entry<Integer, Integer> e : who.entrySet()) {
            Integer before = seen.put(e.getKey() & set, e.getValue());
            if (before != null && !before.equals(e.getValue())) {
                return false;
            }
        }
        return true;
    }

    public int settles(int find, int law) {
        Map<Integer, Integer> who = who(find, law);
        int best = -1;
        for (int set = 0; set < 1024; set++) {
            boolean fewer = best < 0 || Integer.bitCount(set) < Integer.bitCount(best);
            if ((set & ~open()) == 0 && fewer && settling(who, set)) {
                best = set;
            }
        }
        return best;
    }

    /** By the unknowns that were asked and what was answered. */
    private int fewest(Map<Integer, Integer> who, int asked, int answers, Map<Integer, Integer> memo) {
        int key = asked << 10 | answers;
        if (memo.containsKey(key)) {
            return memo.get(key);
        }
        int seen = 0;
        for (Map.Entry<Integer, Integer> e : who.entrySet()) {
            seen |= (e.getKey() & asked) == answers ? 1 << e.getValue() : 0;
        }
        int fewest = 0;
        if (Integer.bitCount(seen) > 1) {
            fewest = 99;
            for (int i = 0; i < 10; i++) {
                if (((open() & ~asked) >> i & 1) == 1) {
                    fewest = Math.min(fewest, by(who, asked, answers, i, memo));
                }
            }
        }
        memo.put(key, fewest);
        return fewest;
    }

    private int by(Map<Integer, Integer> who, int asked, int answers, int i, Map<Integer, Integer> memo) {
        return 1 + Math.max(fewest(who, asked | 1 << i, answers, memo),
            fewest(who, asked | 1 << i, answers | 1 << i, memo));
    }

    public int questions(int find, int law) {
        return fewest(who(find, law), 0, 0, new HashMap<>());
    }

    public int ask(int find, int law) {
        Map<Integer, Integer> who = who(find, law);
        Map<Integer, Integer> memo = new HashMap<>();
        int all = fewest(who, 0, 0, memo);
        for (int i = 0; i < 10 && all > 0; i++) {
            if ((open() >> i & 1) == 1 && by(who, 0, 0, i, memo) == all) {
                return i;
            }
        }
        return -1;
    }

    public int claim(int find, int person, int marks) {
        theFind(find);
        thePerson(person);
        range(marks, 1, 4095);
        if (s.claims.size() == 24) {
            return -1;
        }
        s.claims.add(new int[] {find, person, marks});
        return s.claims.size() - 1;
    }

    private boolean fits(int[] c) {
        return (s.finds.get(c[0]).marks & c[2]) == c[2] && (s.persons.get(c[1])[1] & c[2]) == c[2];
    }

    /** For the tests: marks with which a claim fits. */
    int commonMarks(int find, int person) {
        boolean are = find >= 0 && find < s.finds.size() && person >= 0 && person < s.persons.size();
        return are ? s.finds.get(find).marks & s.persons.get(person)[1] : 0;
    }

    public int claimed(int claim, int what) {
        if (claim < 0 || claim >= s.claims.size()) {
            throw new IndexOutOfBoundsException();
        }
        range(what, 0, 5);
        int[] c = s.claims.get(claim);
        int fits = fits(c) ? 1 : 0;
        int have = have(c[2]);
        return new int[] {c[0], c[1], c[2], fits, have, fits == 1 && have == 1 ? 1 : 0}[what];
    }

    public int best(int find) {
        theFind(find);
        List<int[]> fit = s.claims.stream().filter(c -> c[0] == find && fits(c)).toList();
        int fewest = fit.stream().mapToInt(c -> have(c[2])).min().orElse(-1);
        int[] persons = fit.stream().filter(c -> have(c[2]) == fewest).mapToInt(c -> c[1]).distinct().toArray();
        return persons.length == 0 ? -1 : persons.length == 1 ? persons[0] : -2;
    }

    public int added(int find, int marks) {
        Find f = theFind(find);
        range(marks, 0, 4095);
        int best = -1;
        for (int i = 11; i >= 0; i--) {
            boolean may = (f.marks >> i & 1) == 1 && (marks >> i & 1) == 0;
            if (may && (best < 0 || have(marks | 1 << i) <= have(marks | 1 << best))) {
                best = i;
            }
        }
        return best;
    }

    public int cry(int find) {
        Find f = theFind(find);
        if (f.criedOn.contains(s.today)) {
            return 0;
        }
        f.criedOn.add(s.today);
        return 1;
    }

    public int due(int find, int law) {
        Find f = theFind(find);
        List<OracleText.Rule> l = theLaw(law);
        int[] names = names(f);
        int cry = allWorlds().stream().mapToInt(w -> said(l, w, names)[2]).max().orElse(0);
        return Math.max(0, cry - f.criedOn.size());
    }

    public int left(int find, int day) {
        Find f = theFind(find);
        range(day, f.day, 9999);
        int left = f.worth;
        for (int d = f.day; d < day; d++) {
            left = Math.max(0, left - f.keep);
        }
        return left;
    }

    public int gone(int find) {
        Find f = theFind(find);
        int left = f.worth;
        for (int d = f.day + 1; d <= 9999; d++) {
            left -= f.keep;
            if (left <= 0) {
                return d;
            }
        }
        return -1;
    }

    public int late(int find, int law) {
        Map<Integer, Integer> who = who(find, law);
        int left = left(find, s.today);
        long owner = who.values().stream().filter(w -> w == 1).count();
        if (who.isEmpty()) {
            return 0;
        }
        if (owner == who.size()) {
            return left;
        }
        return owner > 0 || due(find, law) > 0 ? left / 2 : 0;
    }

    public int pass(int find, int from, int to, int price) {
        theFind(find);
        thePerson(from);
        thePerson(to);
        range(price, 0, 9999);
        if (s.passed.size() == 40) {
            return -1;
        }
        if (from == to || (has(find) >> from & 1) == 0) {
            return -2;
        }
        s.passed.add(new int[] {find, from, to, price});
        return to;
    }

    public int has(int find) {
        theFind(find);
        int has = finders(find);
        for (int[] p : s.passed) {
            has = p[0] == find ? 1 << p[2] : has;
        }
        return has;
    }

    public boolean away(int person, boolean is) {
        int[] p = thePerson(person);
        boolean was = p[6] == 1;
        p[6] = is ? 1 : 0;
        return was;
    }

    public int loss(int find, int person) {
        theFind(find);
        thePerson(person);
        int[] loss = new int[16];
        for (int[] p : s.passed) {
            if (p[0] == find && s.persons.get(p[1])[6] == 1) {
                loss[p[1]] -= p[3];
                loss[p[2]] += p[3];
            }
        }
        return loss[person];
    }

    private boolean part(List<OracleText.Rule> a, List<OracleText.Rule> b, Find f, List<Integer> worlds) {
        int[] names = names(f);
        return worlds.stream().anyMatch(w -> said(a, w, names)[1] != said(b, w, names)[1]);
    }

    public int beside(int law, int other) {
        List<OracleText.Rule> a = theLaw(law);
        List<OracleText.Rule> b = theLaw(other);
        List<Integer> worlds = allWorlds();
        return (int) s.finds.stream().filter(f -> part(a, b, f, worlds)).count();
    }

    public int least(int law, int other, int what) {
        List<OracleText.Rule> a = theLaw(law);
        List<OracleText.Rule> b = theLaw(other);
        range(what, 0, 2);
        List<Integer> worlds = allWorlds();
        for (int worth = 1; worth <= 60; worth++) {
            for (int way = 0; way < 6; way++) {
                for (int place = 0; place < 4; place++) {
                    if (part(a, b, newFind(way, place, worth, 0, 0), worlds)) {
                        return new int[] {worth, way, place}[what];
                    }
                }
            }
        }
        return -1;
    }

    public int image() {
        if (images.size() == 3) {
            return -1;
        }
        images.add(s.copy());
        return images.size();
    }

    public int restore() {
        if (images.isEmpty()) {
            return -1;
        }
        s = images.remove(images.size() - 1);
        return images.size();
    }

    public int count(int what) {
        int[] counts = {laws.size(), s.conditions.size(), Integer.bitCount(open()), s.persons.size(), s.today,
            s.finds.size(), s.claims.size(), s.passed.size(), images.size(), tape.length()};
        return what >= 0 && what < 10 ? counts[what] : -1;
    }
}
