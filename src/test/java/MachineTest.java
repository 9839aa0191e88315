import java.util.ArrayList;
import java.util.Arrays;
import java.util.List;
import java.util.Random;

/**
 * Random runs against a second program whose things are real Java objects and
 * whose findings are those of the Java machine: casts, null references, indexes,
 * array stores, negative sizes. Seeds are fixed, so that every run is the same.
 */
public final class MachineTest {
    static final int RUNS = 4000;
    static final int CALLS = 460;

    interface Told {
        int tell();
    }

    static class Mark {
        final int number;

        Mark(int number) {
            this.number = number;
        }
    }

    static final class Seal extends Mark implements Told {
        Seal(int number) {
            super(number);
        }

        public int tell() {
            return 2 * number + 1;
        }
    }

    static final class Note implements Told {
        final int number;

        Note(int number) {
            this.number = number;
        }

        public int tell() {
            return number;
        }
    }

    static final class Pair {
        Object left;
        Object right;
    }

    static final class Spent extends RuntimeException {
        private static final long serialVersionUID = 1L;
    }

    static final Class<?>[] KINDS = {
        Mark.class, Seal.class, Pair.class, Note.class, int[].class, long[].class, char[].class, int[][].class,
        Mark[].class, Seal[].class, Pair[].class, Told[].class, Mark[][].class, Seal[][].class, Told.class, Object.class
    };

    /** The second program: refusals by comparison, findings by the machine. */
    static final class Model {
        final List<Object> things = new ArrayList<>();
        final List<int[]> patterns = new ArrayList<>();
        final List<int[]> rules = new ArrayList<>();
        Object[] slots = new Object[4];
        int steps = 0;
        final int[] found = new int[7];

        boolean known(int t) {
            return t >= 0 && t < things.size();
        }

        boolean knownOrNone(int t) {
            return t == -5 || known(t);
        }

        Object get(int t) {
            return t == -5 ? null : things.get(t);
        }

        int nameOf(Object o) {
            if (o == null) {
                return -5;
            }
            for (int t = 0; t < things.size(); t++) {
                if (things.get(t) == o) {
                    return t;
                }
            }
            throw new IllegalStateException("a thing without a number");
        }

        int finding(RuntimeException e) {
            int f = e instanceof ClassCastException ? 1
                : e instanceof NullPointerException ? 2
                : e instanceof ArrayIndexOutOfBoundsException ? 3
                : e instanceof ArrayStoreException ? 4
                : e instanceof NegativeArraySizeException ? 5
                : e instanceof Spent ? 6 : 0;
            if (f == 0) {
                throw e;
            }
            found[f]++;
            return -20 - f;
        }

        int thing(int form, int number) {
            if (form < 0 || form > 3 || number < -999 || number > 999) {
                return -2;
            }
            if (things.size() == 80) {
                return -4;
            }
            things.add(form == 0 ? new Mark(number) : form == 1 ? new Seal(number) : form == 2 ? new Pair() : new Note(number));
            return things.size() - 1;
        }

        int row(int form, int n) {
            if (form < 4 || form > 13 || n > 6) {
                return -2;
            }
            if (things.size() == 80) {
                return -4;
            }
            try {
                things.add(java.lang.reflect.Array.newInstance(KINDS[form].getComponentType(), n));
                return things.size() - 1;
            } catch (NegativeArraySizeException e) {
                return finding(e);
            }
        }

        void store(Object row, int kind, int i, Object other) {
            Class<?> k = KINDS[kind];
            ((Object[]) k.cast(row))[i] = k.getComponentType().cast(other);
        }

        int lay(int t, int kind, int i, int other) {
            if (!known(t) || !knownOrNone(other)) {
                return -1;
            }
            if (kind < 7 || kind > 13) {
                return -2;
            }
            try {
                store(get(t), kind, i, get(other));
                return 1;
            } catch (RuntimeException e) {
                return finding(e);
            }
        }

        void setHalf(Object pair, int side, Object other) {
            if (side == 0) {
                ((Pair) pair).left = other;
            } else {
                ((Pair) pair).right = other;
            }
        }

        int half(int t, int side, int other) {
            if (!known(t) || !knownOrNone(other)) {
                return -1;
            }
            if (side != 0 && side != 1) {
                return -2;
            }
            try {
                setHalf(get(t), side, get(other));
                return 1;
            } catch (RuntimeException e) {
                return finding(e);
            }
        }

        int put(int t, int kind, int i, long v) {
            if (!known(t)) {
                return -1;
            }
            if (kind < 4 || kind > 6) {
                return -2;
            }
            try {
                switch (kind) {
                    case 4 -> ((int[]) get(t))[i] = (int) v;
                    case 5 -> ((long[]) get(t))[i] = v;
                    default -> ((char[]) get(t))[i] = (char) v;
                }
                return 1;
            } catch (RuntimeException e) {
                return finding(e);
            }
        }

        long numberOf(Object row, int kind, int i) {
            return switch (kind) {
                case 4 -> ((int[]) row)[i];
                case 5 -> ((long[]) row)[i];
                default -> ((char[]) row)[i];
            };
        }

        long number(int t, int kind, int i) {
            return !known(t) || kind < 4 || kind > 6 ? 0 : numberOf(get(t), kind, i);
        }

        int at(int t, int kind, int i) {
            if (!known(t)) {
                return -1;
            }
            if (kind == 2 ? i < 0 || i > 1 : kind < 7 || kind > 13) {
                return -2;
            }
            try {
                if (kind == 2) {
                    Pair p = (Pair) get(t);
                    return nameOf(i == 0 ? p.left : p.right);
                }
                return nameOf(((Object[]) KINDS[kind].cast(get(t)))[i]);
            } catch (RuntimeException e) {
                return finding(e);
            }
        }

        int is(int t, int kind) {
            if (!known(t)) {
                return -1;
            }
            return kind < 0 || kind > 15 ? -2 : KINDS[kind].isInstance(get(t)) ? 1 : 0;
        }

        /** By sort: the lowest and highest a, then which of a, b, c name patterns (as bits 1, 2, 4). */
        static final int[][] SORTS = {
            {0, 15, 0}, {0, 15, 2}, null, {0, 0, 3}, {7, 13, 2}, {7, 13, 4}, {4, 6, 0}, {0, 0, 3}, {0, 0, 3}, {0, 0, 1},
            {0, 3, 0}, {0, 3, 0}, null, {4, 13, 0}
        };

        int pattern(int sort, int a, int b, int c) {
            if (sort < 0 || sort > 13) {
                return -2;
            }
            int[] s = SORTS[sort];
            if (s != null && s[1] > 0 && (a < s[0] || a > s[1])) {
                return -2;
            }
            int[] numbers = {a, b, c};
            for (int k = 0; s != null && k < 3; k++) {
                if ((s[2] >> k & 1) == 1 && (numbers[k] < 0 || numbers[k] >= patterns.size())) {
                    return -1;
                }
            }
            if (patterns.size() == 40) {
                return -4;
            }
            patterns.add(new int[] {sort, a, b, c});
            return patterns.size() - 1;
        }

        boolean fits(int pattern, Object it) {
            if (steps == 300) {
                throw new Spent();
            }
            steps++;
            int[] p = patterns.get(pattern);
            int a = p[1];
            int b = p[2];
            int c = p[3];
            switch (p[0]) {
                case 0: return KINDS[a].isInstance(it);
                case 1: return fits(b, KINDS[a].cast(it));
                case 2: return it == null;
                case 3: return it instanceof Pair q && fits(a, q.left) && fits(b, q.right);
                case 4: return KINDS[a].isInstance(it) && Arrays.stream((Object[]) it).allMatch(o -> fits(b, o));
                case 5: return fits(c, ((Object[]) KINDS[a].cast(it))[b]);
                case 6: return numberOf(it, a, b) == c;
                case 7: return fits(a, it) && fits(b, it);
                case 8: return fits(a, it) || fits(b, it);
                case 9: return !fits(a, it);
                case 10: slots[a] = it; return true;
                case 11: return slots[a] == it;
                case 12: return ((Told) it).tell() == a;
                default: return java.util.Objects.requireNonNull(KINDS[a].cast(it)) != null
                    && java.lang.reflect.Array.getLength(it) == b;
            }
        }

        int run(int pattern, Object it) {
            Object[] before = slots.clone();
            steps = 0;
            int answer;
            try {
                answer = fits(pattern, it) ? 1 : 0;
            } catch (RuntimeException e) {
                answer = finding(e);
            }
            if (answer != 1) {
                slots = before;
            }
            return answer;
        }

        int match(int pattern, int t) {
            return pattern < 0 || pattern >= patterns.size() || !knownOrNone(t) ? -1 : run(pattern, get(t));
        }

        int slot(int s) {
            return s < 0 || s > 3 ? -2 : nameOf(slots[s]);
        }

        int rule(int pattern, int act, int kind, int i) {
            if (pattern < 0 || pattern >= patterns.size()) {
                return -1;
            }
            if (act < 0 || act > 5 || act == 1 && (kind < 7 || kind > 13)) {
                return -2;
            }
            if (rules.size() == 16) {
                return -4;
            }
            rules.add(new int[] {pattern, act, kind, i, 0, 0});
            return rules.size() - 1;
        }

        void act(int act, int kind, int i) {
            switch (act) {
                case 1 -> store(slots[0], kind, i, slots[1]);
                case 2, 3 -> setHalf(slots[0], act - 2, slots[1]);
                case 4 -> {
                    Object first = slots[0];
                    slots[0] = slots[1];
                    slots[1] = first;
                }
                case 5 -> ((int[]) slots[0])[i]++;
                default -> { }
            }
        }

        int apply(int t) {
            if (!known(t)) {
                return -1;
            }
            for (int r = 0; r < rules.size(); r++) {
                int[] rule = rules.get(r);
                int answer = run(rule[0], get(t));
                if (answer == 1) {
                    rule[4]++;
                    try {
                        act(rule[1], rule[2], rule[3]);
                        return r;
                    } catch (RuntimeException e) {
                        return finding(e);
                    }
                }
                rule[5] += answer < 0 ? 1 : 0;
            }
            return -5;
        }

        int told(int r, int what) {
            if (r < 0 || r >= rules.size()) {
                return -1;
            }
            return what < 0 || what > 1 ? -2 : rules.get(r)[4 + what];
        }

        int count(int what) {
            return switch (what) {
                case 0 -> things.size();
                case 1 -> patterns.size();
                case 2 -> rules.size();
                case 3 -> steps;
                default -> what < 0 || what > 9 ? -2 : found[what - 3];
            };
        }

        int clear() {
            int there = things.size();
            things.clear();
            patterns.clear();
            rules.clear();
            Arrays.fill(slots, null);
            Arrays.fill(found, 0);
            steps = 0;
            return there;
        }
    }

    /** One run: a new object and a new model, called alike. */
    static final class Run {
        static final int[] ODD = {-1, -2, -5, -6, 14, 16, 40, 80, Integer.MIN_VALUE, Integer.MAX_VALUE};
        static final String[] NAMES = {
            "thing", "row", "lay", "half", "put", "number", "at", "is", "pattern", "match", "slot", "rule", "apply", "told",
            "count", "clear"
        };
        /** How often each call is made, by the number of its name. */
        static final int[] WEIGHTS = {8, 14, 18, 6, 8, 8, 10, 4, 18, 40, 6, 6, 24, 4, 8, 0};

        final Random random;
        final ThingRules x = new ThingRules();
        final Model m = new Model();
        final StringBuilder told = new StringBuilder();
        /** Some runs make many things, some mostly patterns of patterns, some mostly rules that lay; some clear. */
        final boolean crowded;
        final boolean laying;
        final boolean deep;
        final boolean clears;

        Run(long seed) {
            // Neighbouring seeds begin alike in Random, so they are spread first.
            random = new Random(seed * 0x9E3779B97F4A7C15L);
            crowded = random.nextInt(4) == 0;
            deep = random.nextInt(4) == 0;
            laying = !deep && random.nextInt(4) == 0;
            clears = random.nextInt(3) == 0;
        }

        int from(int low, int high) {
            return random.nextInt(50) == 0 ? ODD[random.nextInt(ODD.length)] : low + random.nextInt(Math.max(1, high - low + 1));
        }

        int aThing() {
            return from(0, m.things.size() - 1);
        }

        int aThingOrNone() {
            return random.nextInt(6) == 0 ? -5 : aThing();
        }

        /** Mostly one of the class, if there is one. */
        int aThingOf(Class<?> kind) {
            int t = aThingOrNone();
            for (int k = 0; k < 30 && random.nextInt(40) != 0 && !(m.known(t) && kind.isInstance(m.get(t))); k++) {
                t = aThing();
            }
            return t;
        }

        /** Mostly a thing of one of the forms. */
        int aThingOfForms(int low, int high) {
            return aThingOf(KINDS[low + random.nextInt(high - low + 1)]);
        }

        int aPattern() {
            int last = m.patterns.size() - 1;
            return !deep && random.nextBoolean() ? from(0, last) : from(Math.max(0, last - (deep ? 1 : 3)), last);
        }

        /** Often one that does nothing but keep, with what acts can do something with. */
        int[] matchNumbers() {
            for (int k = 0; k < 20 && random.nextInt(8) != 0; k++) {
                int p = from(0, m.patterns.size() - 1);
                if (p >= 0 && p < m.patterns.size() && m.patterns.get(p)[0] == 10) {
                    return new int[] {p, m.patterns.get(p)[1] == 0 ? aThingOfForms(7, 13) : aThingOfForms(0, 4)};
                }
            }
            return new int[] {aPattern(), random.nextBoolean() ? aThingOrNone() : aThingOfForms(0, 13)};
        }

        int aPlace() {
            return from(0, random.nextBoolean() ? 1 : 6);
        }

        /** Mostly a kind that the thing is, so that looks go past the first cast. */
        int aKind(int t, int low, int high) {
            for (int k = 0; k < 8 && random.nextInt(6) != 0 && m.known(t); k++) {
                int kind = low + random.nextInt(high - low + 1);
                if (KINDS[kind].isInstance(m.get(t))) {
                    return kind;
                }
            }
            return from(low, high);
        }

        int kindOfSort(int sort) {
            int[] s = sort < 0 || sort > 13 ? null : Model.SORTS[sort];
            if (s == null) {
                return from(-1, 20);
            }
            return (s[2] & 1) == 1 ? aPattern() : from(s[0], s[1]);
        }

        int[] patternNumbers() {
            if (laying && random.nextInt(4) != 0) {
                return random.nextInt(3) == 0 ? new int[] {0, 8, 0, 0} : new int[] {10, random.nextInt(2), 0, 0};
            }
            int sort = deep && m.patterns.size() > 1 && random.nextInt(8) != 0 ? joining() : from(0, 13);
            int b = sort == 5 || sort == 6 || sort == 13 ? aPlace() : aPattern();
            return new int[] {sort, kindOfSort(sort), b, sort == 6 ? from(0, 2) : aPattern()};
        }

        int joining() {
            int[] sorts = {3, 4, 7, 7, 7, 7, 7, 7, 8, 9};
            return sorts[random.nextInt(sorts.length)];
        }

        int aPartOf(int kind) {
            return random.nextInt(8) == 0 ? aThingOrNone() : aThingOf(KINDS[kind].getComponentType());
        }

        int[] layNumbers() {
            int t = aThingOfForms(7, 13);
            int kind = aKind(t, 7, 13);
            return new int[] {t, kind, aPlace(), kind < 7 || kind > 13 ? aThing() : aPartOf(kind)};
        }

        long aLong() {
            return random.nextBoolean() ? random.nextInt(3) : random.nextLong() >> random.nextInt(64);
        }

        int aCall() {
            int left = random.nextInt(Arrays.stream(WEIGHTS).sum());
            int call = 0;
            while (left >= WEIGHTS[call]) {
                left -= WEIGHTS[call];
                call++;
            }
            if (crowded && random.nextInt(4) == 0) {
                return random.nextInt(2);
            }
            return clears && random.nextInt(100) == 0 ? 15 : call;
        }

        int[] arguments(int call) {
            int t = aThing();
            int numbers = aThingOfForms(4, 6);
            int holder = aThingOfForms(7, 13);
            return switch (call) {
                case 0 -> new int[] {from(0, 3), random.nextInt(20) == 0 ? from(-1001, 1001) : from(-1, 4)};
                case 1 -> new int[] {from(4, 13), random.nextInt(8) == 0 ? from(-2, 8) : from(0, 3)};
                case 2 -> layNumbers();
                case 3 -> new int[] {aThingOf(Pair.class), from(0, 1), aThingOrNone()};
                case 4, 5 -> new int[] {numbers, aKind(numbers, 4, 6), aPlace()};
                case 6 -> random.nextInt(4) == 0
                    ? new int[] {aThingOf(Pair.class), 2, from(0, 1)}
                    : new int[] {holder, aKind(holder, 7, 13), aPlace()};
                case 7 -> new int[] {t, from(0, 15)};
                case 8 -> patternNumbers();
                case 9 -> matchNumbers();
                case 10 -> new int[] {from(0, 3)};
                case 11 -> new int[] {aPattern(), laying && random.nextInt(3) != 0 ? 1 : from(0, 5), from(7, 13), aPlace()};
                case 12 -> new int[] {random.nextBoolean() ? t : holder};
                case 13 -> new int[] {from(0, m.rules.size() - 1), from(0, 1)};
                case 14 -> new int[] {from(0, 9)};
                default -> new int[0];
            };
        }

        static long answer(ThingRules x, int call, int[] n, long v) {
            return switch (call) {
                case 0 -> x.thing(n[0], n[1]);
                case 1 -> x.row(n[0], n[1]);
                case 2 -> x.lay(n[0], n[1], n[2], n[3]);
                case 3 -> x.half(n[0], n[1], n[2]);
                case 4 -> x.put(n[0], n[1], n[2], v);
                case 5 -> x.number(n[0], n[1], n[2]);
                case 6 -> x.at(n[0], n[1], n[2]);
                case 7 -> x.is(n[0], n[1]);
                case 8 -> x.pattern(n[0], n[1], n[2], n[3]);
                case 9 -> x.match(n[0], n[1]);
                case 10 -> x.slot(n[0]);
                case 11 -> x.rule(n[0], n[1], n[2], n[3]);
                case 12 -> x.apply(n[0]);
                case 13 -> x.told(n[0], n[1]);
                case 14 -> x.count(n[0]);
                default -> x.clear();
            };
        }

        static long answer(Model m, int call, int[] n, long v) {
            return switch (call) {
                case 0 -> m.thing(n[0], n[1]);
                case 1 -> m.row(n[0], n[1]);
                case 2 -> m.lay(n[0], n[1], n[2], n[3]);
                case 3 -> m.half(n[0], n[1], n[2]);
                case 4 -> m.put(n[0], n[1], n[2], v);
                case 5 -> m.number(n[0], n[1], n[2]);
                case 6 -> m.at(n[0], n[1], n[2]);
                case 7 -> m.is(n[0], n[1]);
                case 8 -> m.pattern(n[0], n[1], n[2], n[3]);
                case 9 -> m.match(n[0], n[1]);
                case 10 -> m.slot(n[0]);
                case 11 -> m.rule(n[0], n[1], n[2], n[3]);
                case 12 -> m.apply(n[0]);
                case 13 -> m.told(n[0], n[1]);
                case 14 -> m.count(n[0]);
                default -> m.clear();
            };
        }

        String said(boolean ofModel, int call, int[] n, long v) {
            try {
                return String.valueOf(ofModel ? answer(m, call, n, v) : answer(x, call, n, v));
            } catch (ClassCastException | ArrayIndexOutOfBoundsException e) {
                return "throws." + e.getClass().getSimpleName();
            }
        }

        boolean alike(int call, int... n) {
            long v = aLong();
            String want = said(true, call, n, v);
            String got = said(false, call, n, v);
            String what = NAMES[call] + Arrays.toString(n) + (call == 4 ? " v " + v : "");
            told.append(what).append(" = ").append(want).append('\n');
            seen(call, want);
            if (!got.equals(want)) {
                System.out.println(told + "the last one answered " + got);
            }
            return got.equals(want);
        }

        boolean passes() {
            for (int c = 0; c < CALLS; c++) {
                int call = c < 12 ? random.nextInt(2) : aCall();
                if (!alike(call, arguments(call))) {
                    return false;
                }
            }
            boolean same = true;
            for (int s = 0; s < 4 && same; s++) {
                same = alike(10, s);
            }
            for (int what = 0; what < 10 && same; what++) {
                same = alike(14, what);
            }
            for (int r = 0; r < 32 && same; r++) {
                same = alike(13, r / 2, r % 2);
            }
            return same;
        }
    }

    static final java.util.TreeMap<String, Integer> SEEN = new java.util.TreeMap<>();

    static void seen(int call, String answer) {
        boolean plain = !answer.startsWith("-") && !answer.startsWith("t") || call == 5 && answer.startsWith("-");
        SEEN.merge(Run.NAMES[call] + " " + (plain ? "ok" : answer), 1, Integer::sum);
    }

    /** What the runs have to meet often, lest they prove little. */
    static final String[] MUST_MEET = {
        "lay ok", "half ok", "put ok", "number ok", "at ok", "match ok", "slot ok", "apply ok", "clear ok",
        "thing -2", "thing -4", "row -2", "row -4", "row -25", "lay -1", "lay -2", "lay -21", "lay -23", "lay -24", "half -1",
        "half -2", "half -21", "put -1", "put -2", "put -21", "put -23", "number throws.ClassCastException",
        "number throws.ArrayIndexOutOfBoundsException", "at -1", "at -2", "at -5", "at -21", "at -23", "is -1", "is -2",
        "pattern -1", "pattern -2", "pattern -4", "match -1", "match -21", "match -22", "match -23", "match -26", "slot -2",
        "slot -5", "rule -1", "rule -2", "rule -4", "apply -1", "apply -5", "apply -21", "apply -22", "apply -23", "apply -24",
        "told -1", "told -2", "count -2"
    };

    public static void main(String[] args) {
        int wrong = 0;
        for (int run = 0; run < RUNS && wrong < 3; run++) {
            if (!new Run(run).passes()) {
                System.out.println("run " + run + " is not as due");
                wrong++;
            }
        }
        for (String must : MUST_MEET) {
            if (SEEN.getOrDefault(must, 0) < 20) {
                System.out.println("too seldom met: " + must + " (" + SEEN.getOrDefault(must, 0) + " times)");
                wrong++;
            }
        }
        if (args.length > 0) {
            System.out.println(SEEN);
        }
        System.out.println(wrong == 0 ? "all answers are as due" : "not all answers are as due");
        if (wrong != 0) {
            System.exit(1);
        }
    }
}
