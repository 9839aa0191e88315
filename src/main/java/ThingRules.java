/** Rules that look at things; ../shared/DOC.md tells what each call answers. */
public final class ThingRules {

    public static final int UNKNOWN = -1, OUTSIDE = -2, FULL = -4, NONE = -5;

    // Findings, as they are answered.
    private static final int CAST = -21;
    private static final int NOTHING = -22;
    private static final int BEYOND = -23;
    private static final int STORE = -24;
    private static final int SIZE = -25;
    private static final int SPENT = -26;
    private static final int FINDING_BASE = -20;
    private static final int FINDINGS = 6;

    // Forms, each of which is a kind as well, and the two kinds that are no form.
    private static final int MARK = 0;
    private static final int SEAL = 1;
    private static final int PAIR = 2;
    private static final int NOTE = 3;
    private static final int INTS = 4;
    private static final int CHARS = 6;
    private static final int SHEET = 7;
    private static final int MARKS = 8;
    private static final int SEALS = 9;
    private static final int TOLD_ROW = 11;
    private static final int MARKS_SHELF = 12;
    private static final int SEALS_SHELF = 13;
    private static final int TOLD = 14;
    private static final int ANY = 15;
    private static final int NO_KIND = -1;

    /** What the kinds 7 to 13 are rows of. */
    private static final int[] PARTS = {INTS, MARK, SEAL, PAIR, TOLD, MARKS, SEALS};

    // Sorts of patterns.
    private static final int IS_OF = 0;
    private static final int SURE = 1;
    private static final int IS_NOTHING = 2;
    private static final int HALVES = 3;
    private static final int EACH = 4;
    private static final int PLACE = 5;
    private static final int DIGIT = 6;
    private static final int BOTH = 7;
    private static final int EITHER = 8;
    private static final int NOT = 9;
    private static final int KEEP = 10;
    private static final int SAME = 11;
    private static final int TELLS = 12;
    private static final int LONG = 13;

    // Acts of rules.
    private static final int LAY = 1;
    private static final int LEFT = 2;
    private static final int RIGHT = 3;
    private static final int TURN = 4;
    private static final int GROW = 5;
    private static final int LAST_ACT = 5;

    // What a look answers, unless it ends with a finding.
    private static final int FITS = 1;
    private static final int MISSES = 0;

    private static final int DONE = 1;

    private static final int MOST_THINGS = 80;
    private static final int MOST_PLACES = 6;
    private static final int MOST_NUMBER = 999;
    private static final int MOST_PATTERNS = 40;
    private static final int MOST_RULES = 16;
    private static final int MOST_STEPS = 300;
    private static final int SLOTS = 4;

    private final Things things;
    private final Patterns patterns;
    private final Rules rules;
    private final int[] slots;
    private final int[] slotsBefore;
    private final int[] findings;
    private int steps;

    public ThingRules() {
        things = new Things();
        patterns = new Patterns();
        rules = new Rules();
        slots = new int[SLOTS];
        slotsBefore = new int[SLOTS];
        findings = new int[FINDINGS];
        forgetTraces();
    }

    public int thing(int form, int number) {
        if (!within(form, MARK, NOTE) || !within(number, -MOST_NUMBER, MOST_NUMBER)) {
            return OUTSIDE;
        }
        return things.make(form, number, 0);
    }

    public int row(int form, int n) {
        if (!within(form, INTS, SEALS_SHELF) || n > MOST_PLACES) {
            return OUTSIDE;
        }
        if (things.areFull()) {
            return FULL;
        }
        return n < 0 ? counted(SIZE) : things.make(form, 0, n);
    }

    public int lay(int thing, int kind, int i, int other) {
        if (!things.know(thing) || !things.knowOrNone(other)) {
            return UNKNOWN;
        }
        return isHolderKind(kind) ? counted(things.layIn(thing, kind, i, other)) : OUTSIDE;
    }

    public int half(int thing, int side, int other) {
        if (!things.know(thing) || !things.knowOrNone(other)) {
            return UNKNOWN;
        }
        return isSide(side) ? counted(things.setHalf(thing, side, other)) : OUTSIDE;
    }

    public int put(int thing, int kind, int i, long v) {
        if (!things.know(thing)) {
            return UNKNOWN;
        }
        return isNumbersKind(kind) ? counted(things.putNumber(thing, kind, i, v)) : OUTSIDE;
    }

    public long number(int thing, int kind, int i) throws ClassCastException, ArrayIndexOutOfBoundsException {
        if (!things.know(thing) || !isNumbersKind(kind)) {
            return 0;
        }
        int reached = things.reach(thing, kind, i);
        if (reached == CAST) {
            throw new ClassCastException();
        }
        if (reached == BEYOND) {
            throw new ArrayIndexOutOfBoundsException();
        }
        return things.numberIn(thing, i);
    }

    public int at(int thing, int kind, int i) {
        if (!things.know(thing)) {
            return UNKNOWN;
        }
        if (kind == PAIR) {
            return isSide(i) ? halfOf(thing, i) : OUTSIDE;
        }
        if (!isHolderKind(kind)) {
            return OUTSIDE;
        }
        int reached = counted(things.reach(thing, kind, i));
        return reached == DONE ? things.heldIn(thing, i) : reached;
    }

    public int is(int thing, int kind) {
        if (!things.know(thing)) {
            return UNKNOWN;
        }
        if (!within(kind, MARK, ANY)) {
            return OUTSIDE;
        }
        return things.isOf(thing, kind) ? 1 : 0;
    }

    public int pattern(int sort, int a, int b, int c) {
        if (!isAsTold(sort, a)) {
            return OUTSIDE;
        }
        return namesKnownPatterns(sort, a, b, c) ? patterns.make(sort, a, b, c) : UNKNOWN;
    }

    public int match(int pattern, int thing) {
        if (!patterns.know(pattern) || !things.knowOrNone(thing)) {
            return UNKNOWN;
        }
        return matched(pattern, thing);
    }

    public int slot(int slot) {
        return isSlot(slot) ? slots[slot] : OUTSIDE;
    }

    public int rule(int pattern, int act, int kind, int i) {
        if (!patterns.know(pattern)) {
            return UNKNOWN;
        }
        if (!within(act, 0, LAST_ACT) || (act == LAY && !isHolderKind(kind))) {
            return OUTSIDE;
        }
        return rules.make(pattern, act, kind, i);
    }

    public int apply(int thing) {
        if (!things.know(thing)) {
            return UNKNOWN;
        }
        for (int r = 0; r < rules.made; r++) {
            int answer = matched(rules.pattern[r], thing);
            if (answer == FITS) {
                rules.used[r]++;
                int done = counted(doAct(rules.act[r], rules.kind[r], rules.place[r]));
                return done == DONE ? r : done;
            }
            if (answer != MISSES) {
                rules.fell[r]++;
            }
        }
        return NONE;
    }

    public int told(int rule, int what) {
        if (!rules.know(rule)) {
            return UNKNOWN;
        }
        switch (what) {
            case 0: return rules.used[rule];
            case 1: return rules.fell[rule];
            default: return OUTSIDE;
        }
    }

    public int count(int what) {
        switch (what) {
            case 0: return things.made;
            case 1: return patterns.made;
            case 2: return rules.made;
            case 3: return steps;
            default: return within(what, 4, 3 + FINDINGS) ? findings[what - 4] : OUTSIDE;
        }
    }

    public int clear() {
        int there = things.made;
        things.made = 0;
        patterns.made = 0;
        rules.made = 0;
        forgetTraces();
        return there;
    }

    private void forgetTraces() {
        for (int s = 0; s < SLOTS; s++) {
            slots[s] = NONE;
        }
        for (int f = 0; f < FINDINGS; f++) {
            findings[f] = 0;
        }
        steps = 0;
    }

    private static boolean within(int value, int low, int high) {
        return value >= low && value <= high;
    }

    private static boolean isHolderKind(int kind) {
        return within(kind, SHEET, SEALS_SHELF);
    }

    private static boolean isNumbersKind(int kind) {
        return within(kind, INTS, CHARS);
    }

    private static boolean isSide(int side) {
        return within(side, 0, 1);
    }

    private static boolean isSlot(int slot) {
        return within(slot, 0, SLOTS - 1);
    }

    /** Counts the answer if it is a finding, and hands it on. */
    private int counted(int answer) {
        int finding = FINDING_BASE - answer;
        if (within(finding, 1, FINDINGS)) {
            findings[finding - 1]++;
        }
        return answer;
    }

    private int halfOf(int thing, int side) {
        return things.isOf(thing, PAIR) ? things.heldHalf(thing, side) : counted(CAST);
    }

    private static boolean isAsTold(int sort, int a) {
        switch (sort) {
            case IS_OF:
            case SURE:
                return within(a, MARK, ANY);
            case EACH:
            case PLACE:
                return isHolderKind(a);
            case DIGIT:
                return isNumbersKind(a);
            case LONG:
                return within(a, INTS, SEALS_SHELF);
            case KEEP:
            case SAME:
                return isSlot(a);
            default:
                return within(sort, IS_OF, LONG);
        }
    }

    private boolean namesKnownPatterns(int sort, int a, int b, int c) {
        switch (sort) {
            case HALVES:
            case BOTH:
            case EITHER:
                return patterns.know(a) && patterns.know(b);
            case SURE:
            case EACH:
                return patterns.know(b);
            case PLACE:
                return patterns.know(c);
            case NOT:
                return patterns.know(a);
            default:
                return true;
        }
    }

    /** A whole match: its finding is counted, and its slots stay only if it fits. */
    private int matched(int pattern, int it) {
        steps = 0;
        for (int s = 0; s < SLOTS; s++) {
            slotsBefore[s] = slots[s];
        }
        int answer = counted(look(pattern, it));
        if (answer != FITS) {
            for (int s = 0; s < SLOTS; s++) {
                slots[s] = slotsBefore[s];
            }
        }
        return answer;
    }

    /**
     * Looks one step deep and further by itself. A pattern names earlier ones
     * alone, so that no more than 40 looks, each through one helper at the
     * most, ever stand open at once.
     */
    private int look(int p, int it) {
        if (steps >= MOST_STEPS) {
            return SPENT;
        }
        steps++;
        if (!patterns.know(p)) {
            return MISSES;
        }
        int a = patterns.a[p];
        int b = patterns.b[p];
        int c = patterns.c[p];
        switch (patterns.sort[p]) {
            case IS_OF: return fitsIf(things.isOf(it, a));
            case SURE: return things.mayBeTaken(it, a) ? look(b, it) : CAST;
            case IS_NOTHING: return fitsIf(it == NONE);
            case HALVES: return lookAtHalves(it, a, b);
            case EACH: return lookAtEach(it, a, b);
            case PLACE: return lookAtPlace(it, a, b, c);
            case DIGIT: return lookAtDigit(it, a, b, c);
            case BOTH: return lookWithBoth(it, a, b);
            case EITHER: return lookWithEither(it, a, b);
            case NOT: return turnedRound(look(a, it));
            case KEEP: return keep(it, a);
            case SAME: return fitsIf(isSlot(a) && slots[a] == it);
            case TELLS: return lookAtTold(it, a);
            case LONG: return lookAtLength(it, a, b);
            default: return MISSES;
        }
    }

    private static int fitsIf(boolean so) {
        return so ? FITS : MISSES;
    }

    /** A finding is neither a fit nor a miss: it stays what it is. */
    private static int turnedRound(int answer) {
        switch (answer) {
            case FITS: return MISSES;
            case MISSES: return FITS;
            default: return answer;
        }
    }

    private int lookAtHalves(int it, int a, int b) {
        if (!things.isOf(it, PAIR)) {
            return MISSES;
        }
        int left = look(a, things.heldHalf(it, 0));
        return left == FITS ? look(b, things.heldHalf(it, 1)) : left;
    }

    private int lookAtEach(int it, int kind, int b) {
        if (!things.isOf(it, kind)) {
            return MISSES;
        }
        int answer = FITS;
        int places = things.placesOf(it);
        for (int i = 0; i < places && answer == FITS; i++) {
            answer = look(b, things.heldIn(it, i));
        }
        return answer;
    }

    private int lookAtPlace(int it, int kind, int i, int c) {
        int reached = things.reach(it, kind, i);
        return reached == DONE ? look(c, things.heldIn(it, i)) : reached;
    }

    private int lookAtDigit(int it, int kind, int i, int digit) {
        int reached = things.reach(it, kind, i);
        return reached == DONE ? fitsIf(things.numberIn(it, i) == digit) : reached;
    }

    private int lookWithBoth(int it, int a, int b) {
        int first = look(a, it);
        return first == FITS ? look(b, it) : first;
    }

    private int lookWithEither(int it, int a, int b) {
        int first = look(a, it);
        return first == MISSES ? look(b, it) : first;
    }

    private int keep(int it, int s) {
        if (!isSlot(s)) {
            return MISSES;
        }
        slots[s] = it;
        return FITS;
    }

    private int lookAtTold(int it, int telling) {
        int taken = things.take(it, TOLD);
        return taken == DONE ? fitsIf(things.tellingOf(it) == telling) : taken;
    }

    private int lookAtLength(int it, int kind, int places) {
        int taken = things.take(it, kind);
        return taken == DONE ? fitsIf(things.placesOf(it) == places) : taken;
    }

    private int doAct(int act, int kind, int i) {
        switch (act) {
            case LAY: return things.layIn(slots[0], kind, i, slots[1]);
            case LEFT: return things.setHalf(slots[0], 0, slots[1]);
            case RIGHT: return things.setHalf(slots[0], 1, slots[1]);
            case TURN: return turnSlots();
            case GROW: return things.putNumber(slots[0], INTS, i, things.numberIn(slots[0], i) + 1);
            default: return DONE;
        }
    }

    private int turnSlots() {
        int first = slots[0];
        slots[0] = slots[1];
        slots[1] = first;
        return DONE;
    }

    /**
     * All things, by number; NONE stands for nothing. What is asked of a thing
     * or place that is not there answers with NONE or 0, so that no index ever
     * leaves its row.
     */
    private static final class Things {
        int made;
        private final int[] form = new int[MOST_THINGS];
        private final int[] number = new int[MOST_THINGS];
        private final int[] places = new int[MOST_THINGS];
        private final int[] left = new int[MOST_THINGS];
        private final int[] right = new int[MOST_THINGS];
        private final int[] held = new int[MOST_THINGS * MOST_PLACES];
        private final long[] numbers = new long[MOST_THINGS * MOST_PLACES];

        boolean areFull() {
            return made >= MOST_THINGS;
        }

        boolean know(int t) {
            return t >= 0 && t < made;
        }

        boolean knowOrNone(int t) {
            return t == NONE || know(t);
        }

        int make(int newForm, int newNumber, int newPlaces) {
            if (areFull()) {
                return FULL;
            }
            int t = made;
            form[t] = newForm;
            number[t] = newNumber;
            places[t] = newPlaces;
            left[t] = NONE;
            right[t] = NONE;
            for (int i = 0; i < MOST_PLACES; i++) {
                held[t * MOST_PLACES + i] = NONE;
                numbers[t * MOST_PLACES + i] = 0;
            }
            made++;
            return t;
        }

        boolean isOf(int t, int kind) {
            return know(t) && formIsOf(form[t], kind);
        }

        boolean mayBeTaken(int t, int kind) {
            return t == NONE || isOf(t, kind);
        }

        /** DONE if there is something to look into that is of the kind. */
        int take(int t, int kind) {
            if (t == NONE) {
                return NOTHING;
            }
            return isOf(t, kind) ? DONE : CAST;
        }

        /** As take, but a place of it has to be there, too. */
        int reach(int t, int kind, int i) {
            int taken = take(t, kind);
            if (taken != DONE) {
                return taken;
            }
            return hasPlace(t, i) ? DONE : BEYOND;
        }

        int placesOf(int t) {
            return know(t) ? places[t] : 0;
        }

        int heldIn(int t, int i) {
            return hasPlace(t, i) ? held[t * MOST_PLACES + i] : NONE;
        }

        long numberIn(int t, int i) {
            return hasPlace(t, i) ? numbers[t * MOST_PLACES + i] : 0;
        }

        int heldHalf(int t, int side) {
            if (!know(t)) {
                return NONE;
            }
            return side == 0 ? left[t] : right[t];
        }

        int tellingOf(int t) {
            if (!know(t)) {
                return 0;
            }
            return form[t] == SEAL ? 2 * number[t] + 1 : number[t];
        }

        int layIn(int t, int kind, int i, int other) {
            // Both are taken for their kinds before the row itself is asked for.
            if (!mayBeTaken(t, kind) || !mayBeTaken(other, partOf(kind))) {
                return CAST;
            }
            int reached = reach(t, kind, i);
            if (reached != DONE) {
                return reached;
            }
            if (!mayBeTaken(other, partOf(form[t]))) {
                return STORE;
            }
            held[t * MOST_PLACES + i] = other;
            return DONE;
        }

        int setHalf(int t, int side, int other) {
            int taken = take(t, PAIR);
            if (taken != DONE) {
                return taken;
            }
            if (side == 0) {
                left[t] = other;
            } else {
                right[t] = other;
            }
            return DONE;
        }

        int putNumber(int t, int kind, int i, long v) {
            int reached = reach(t, kind, i);
            if (reached == DONE) {
                numbers[t * MOST_PLACES + i] = cutTo(kind, v);
            }
            return reached;
        }

        private boolean hasPlace(int t, int i) {
            return know(t) && i >= 0 && i < places[t];
        }

        private static long cutTo(int kind, long v) {
            switch (kind) {
                case INTS: return (int) v;
                case CHARS: return (char) v;
                default: return v;
            }
        }

        private static int partOf(int kind) {
            return isHolderKind(kind) ? PARTS[kind - SHEET] : NO_KIND;
        }

        private static boolean formIsOf(int form, int kind) {
            if (kind == form || kind == ANY) {
                return true;
            }
            switch (form) {
                case SEAL: return kind == MARK || kind == TOLD;
                case NOTE: return kind == TOLD;
                case SEALS: return kind == MARKS || kind == TOLD_ROW;
                case SEALS_SHELF: return kind == MARKS_SHELF;
                default: return false;
            }
        }
    }

    /** All patterns, by number, with their sorts and numbers. */
    private static final class Patterns {
        int made;
        final int[] sort = new int[MOST_PATTERNS];
        final int[] a = new int[MOST_PATTERNS];
        final int[] b = new int[MOST_PATTERNS];
        final int[] c = new int[MOST_PATTERNS];

        boolean know(int p) {
            return p >= 0 && p < made;
        }

        int make(int newSort, int newA, int newB, int newC) {
            if (made >= MOST_PATTERNS) {
                return FULL;
            }
            int p = made;
            sort[p] = newSort;
            a[p] = newA;
            b[p] = newB;
            c[p] = newC;
            made++;
            return p;
        }
    }

    /** All rules, by number, and how they fared. */
    private static final class Rules {
        int made;
        final int[] pattern = new int[MOST_RULES];
        final int[] act = new int[MOST_RULES];
        final int[] kind = new int[MOST_RULES];
        final int[] place = new int[MOST_RULES];
        final int[] used = new int[MOST_RULES];
        final int[] fell = new int[MOST_RULES];

        boolean know(int r) {
            return r >= 0 && r < made;
        }

        int make(int newPattern, int newAct, int newKind, int newPlace) {
            if (made >= MOST_RULES) {
                return FULL;
            }
            int r = made;
            pattern[r] = newPattern;
            act[r] = newAct;
            kind[r] = newKind;
            place[r] = newPlace;
            used[r] = 0;
            fell[r] = 0;
            made++;
            return r;
        }
    }
}
