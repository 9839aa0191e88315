import java.util.ArrayList;

/** A run of calls on one new object; remembers them, so that a wrong answer can be told with all that led to it. */
final class Run implements Words {
    /** The document promises nothing beyond, so that no test may rest on more. */
    static final int MOST_CALLS = 512;
    static final int FORMS = 14;
    static final int PLACES_OF_ALL_FORMS = 2;

    private final ThingRules it = new ThingRules();
    private final ArrayList<String> calls = new ArrayList<>();
    private int quietCalls;
    private final ArrayList<Integer> forms = new ArrayList<>();
    private final ArrayList<Integer> places = new ArrayList<>();

    /** One thing of each form, numbered as their forms; numbers are 10 and the form, rows have 2 places. */
    static Run withAllForms() {
        Run x = new Run();
        for (int form = MARK; form <= NOTE; form++) {
            x.thing(form, 10 + form);
        }
        for (int form = INTS; form <= SEALS_SHELF; form++) {
            x.row(form, PLACES_OF_ALL_FORMS);
        }
        return x;
    }

    void due(long want, long got) {
        if (want != got) {
            throw new AssertionError("answered " + got + ", due is " + want + ": " + String.join(" ", calls));
        }
    }

    void due(String want, String got) {
        if (!want.equals(got)) {
            throw new AssertionError("shows " + got + ", due is " + want + ": " + String.join(" ", calls));
        }
    }

    private int told(String name, long answer, long... with) {
        StringBuilder call = new StringBuilder(name).append('(');
        for (int k = 0; k < with.length; k++) {
            call.append(k == 0 ? "" : ", ").append(with[k]);
        }
        calls.add(call.append(")=").append(answer).toString());
        quietly(0);
        return (int) answer;
    }

    /** Counts calls that need not be told. */
    private void quietly(int more) {
        quietCalls += more;
        if (callsMade() > MOST_CALLS) {
            throw new AssertionError("the test makes more than " + MOST_CALLS + " calls on one object");
        }
    }

    private int made(int form, int size, int answer) {
        if (answer >= 0) {
            forms.add(form);
            places.add(size);
        }
        return answer;
    }

    int callsMade() {
        return calls.size() + quietCalls;
    }

    int thing(int form, int number) {
        return made(form, 0, told("thing", it.thing(form, number), form, number));
    }

    int row(int form, int n) {
        return made(form, n, told("row", it.row(form, n), form, n));
    }

    int lay(int thing, int kind, int i, int other) {
        return told("lay", it.lay(thing, kind, i, other), thing, kind, i, other);
    }

    int half(int thing, int side, int other) {
        return told("half", it.half(thing, side, other), thing, side, other);
    }

    int put(int thing, int kind, int i, long v) {
        return told("put", it.put(thing, kind, i, v), thing, kind, i, v);
    }

    long number(int thing, int kind, int i) {
        long answer = it.number(thing, kind, i);
        told("number", answer, thing, kind, i);
        return answer;
    }

    /** The finding that number() throws for, as other calls answer it; 0 if it throws nothing. */
    int thrown(int thing, int kind, int i) {
        int found = 0;
        try {
            it.number(thing, kind, i);
        } catch (ClassCastException e) {
            found = e.getClass() == ClassCastException.class ? CAST : 1;
        } catch (ArrayIndexOutOfBoundsException e) {
            found = BEYOND;
        }
        return told("thrown by number", found, thing, kind, i);
    }

    int at(int thing, int kind, int i) {
        return told("at", it.at(thing, kind, i), thing, kind, i);
    }

    int is(int thing, int kind) {
        return told("is", it.is(thing, kind), thing, kind);
    }

    int pattern(int sort, int a, int b, int c) {
        return told("pattern", it.pattern(sort, a, b, c), sort, a, b, c);
    }

    int match(int pattern, int thing) {
        return told("match", it.match(pattern, thing), pattern, thing);
    }

    int slot(int slot) {
        return told("slot", it.slot(slot), slot);
    }

    int rule(int pattern, int act, int kind, int i) {
        return told("rule", it.rule(pattern, act, kind, i), pattern, act, kind, i);
    }

    int apply(int thing) {
        return told("apply", it.apply(thing), thing);
    }

    int told(int rule, int what) {
        return told("told", it.told(rule, what), rule, what);
    }

    int count(int what) {
        return told("count", it.count(what), what);
    }

    int clear() {
        forms.clear();
        places.clear();
        return told("clear", it.clear());
    }

    /** A pattern that fits each thing, but not NOTHING, in one step. */
    int anyThing() {
        return pattern(IS, ANY, 0, 0);
    }

    /** Has a slot hold a thing or NOTHING. */
    void hold(int slot, int thing) {
        due(1, match(pattern(KEEP, slot, 0, 0), thing));
    }

    /** A pattern that fits each thing in exactly so many steps, of 2 to 511. */
    int fittingIn(int steps) {
        int one = anyThing();
        int[] doubled = new int[8];
        doubled[0] = one;
        for (int k = 1; k < doubled.length; k++) {
            doubled[k] = pattern(BOTH, doubled[k - 1], doubled[k - 1], 0);
        }
        int made = one;
        // doubled[k] takes 2^(k+1) - 1 steps; joined by BOTH it adds 2^(k+1).
        for (int k = doubled.length - 1; k >= 0; k--) {
            if (((steps - 1) >> (k + 1) & 1) == 1) {
                made = pattern(BOTH, made, doubled[k], 0);
            }
        }
        return steps % 2 == 0 ? pattern(SURE, ANY, made, 0) : made;
    }

    /** Findings in all, of each sort. */
    void findings(int casts, int nothings, int beyonds, int stores, int sizes, int spents) {
        int[] want = {casts, nothings, beyonds, stores, sizes, spents};
        for (int f = 0; f < want.length; f++) {
            due(want[f], count(CASTS + f));
        }
    }

    void noFindings() {
        findings(0, 0, 0, 0, 0, 0);
    }

    void slots(int first, int second, int third, int fourth) {
        int[] want = {first, second, third, fourth};
        for (int s = 0; s < want.length; s++) {
            due(want[s], slot(s));
        }
    }

    /** All that can be seen without a change. */
    String picture() {
        StringBuilder seen = new StringBuilder("counts");
        for (int what = THINGS; what <= SPENTS; what++) {
            seen.append(' ').append(it.count(what));
        }
        seen.append(" rules");
        int rules = it.count(RULES);
        for (int r = 0; r < rules; r++) {
            seen.append(' ').append(it.told(r, USED)).append('/').append(it.told(r, FELL));
        }
        quietly(SPENTS + 2 + 2 * rules);
        return seen.append(' ').append(holdings()).toString();
    }

    /** What slots, halves and places hold. */
    String holdings() {
        StringBuilder seen = new StringBuilder("slots");
        for (int s = 0; s < 4; s++) {
            seen.append(' ').append(it.slot(s));
        }
        quietly(4);
        for (int t = 0; t < forms.size(); t++) {
            int form = forms.get(t);
            int size = form == PAIR ? 2 : places.get(t);
            seen.append(" thing ").append(t).append(':').append(it.is(t, form));
            for (int i = 0; i < size; i++) {
                boolean numbers = form >= INTS && form <= CHARS;
                seen.append(' ').append(numbers ? it.number(t, form, i) : it.at(t, form, i));
            }
            quietly(1 + size);
        }
        return seen.toString();
    }
}
