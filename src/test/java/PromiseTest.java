/** One method a promise: ordinary inputs, the edges that the document names, wrong inputs. */
public final class PromiseTest {
    static final int UNKNOWN = -1, OUTSIDE = -2, FULL = -4, NONE = -5;
    static final int CAST = -21, NOTHING = -22, BEYOND = -23, STORE = -24, SIZE = -25, SPENT = -26;
    static final int LOWEST = Integer.MIN_VALUE, HIGHEST = Integer.MAX_VALUE;

    static int wrong = 0;

    static void due(String call, long got, long want) {
        if (got != want) {
            wrong++;
            System.out.println(call + " answered " + got + ", due is " + want);
        }
    }

    /** What number() threw: 0 nothing, 1 ClassCastException, 2 ArrayIndexOutOfBoundsException. */
    static int thrown(ThingRules x, int thing, int kind, int i) {
        try {
            x.number(thing, kind, i);
            return 0;
        } catch (ClassCastException e) {
            return 1;
        } catch (ArrayIndexOutOfBoundsException e) {
            return 2;
        }
    }

    /** An object with one thing of each form, numbered as their forms; rows have 2 places. */
    static ThingRules withAllForms() {
        ThingRules x = new ThingRules();
        for (int form = 0; form < 4; form++) {
            x.thing(form, 10 + form);
        }
        for (int form = 4; form < 14; form++) {
            x.row(form, 2);
        }
        return x;
    }

    static void counts(String when, ThingRules x, int... want) {
        for (int f = 0; f < want.length; f++) {
            due(when + ": count(" + (4 + f) + ")", x.count(4 + f), want[f]);
        }
    }

    static void promise1NewObject() {
        ThingRules x = new ThingRules();
        for (int what = 0; what < 10; what++) {
            due("1: count(" + what + ")", x.count(what), 0);
        }
        for (int slot = 0; slot < 4; slot++) {
            due("1: slot(" + slot + ")", x.slot(slot), NONE);
        }
        due("1: is(0, 15)", x.is(0, 15), UNKNOWN);
        due("1: match(0, NONE)", x.match(0, NONE), UNKNOWN);
        due("1: told(0, 0)", x.told(0, 0), UNKNOWN);
        due("1: apply(0)", x.apply(0), UNKNOWN);
        due("1: clear()", x.clear(), 0);
        ThingRules y = new ThingRules();
        y.thing(0, 1);
        due("1: another object's count(0)", x.count(0), 0);
    }

    static void promise2Thing() {
        ThingRules x = new ThingRules();
        due("2: thing(-1, 0)", x.thing(-1, 0), OUTSIDE);
        due("2: thing(4, 0)", x.thing(4, 0), OUTSIDE);
        due("2: thing(lowest, 0)", x.thing(LOWEST, 0), OUTSIDE);
        due("2: thing(0, 1000)", x.thing(0, 1000), OUTSIDE);
        due("2: thing(3, -1000)", x.thing(3, -1000), OUTSIDE);
        due("2: thing(2, 1000)", x.thing(2, 1000), OUTSIDE);
        due("2: thing(2, lowest)", x.thing(2, LOWEST), OUTSIDE);
        due("2: count(0)", x.count(0), 0);
        int[] numbers = {999, -999, 999, -999};
        for (int form = 0; form < 4; form++) {
            due("2: thing(" + form + ")", x.thing(form, numbers[form]), form);
            due("2: is its form " + form, x.is(form, form), 1);
        }
        due("2: left at first", x.at(2, 2, 0), NONE);
        due("2: right at first", x.at(2, 2, 1), NONE);
        for (int t = 4; t < 80; t++) {
            due("2: thing " + t, x.thing(t % 4, 0), t);
        }
        due("2: the 81st", x.thing(0, 0), FULL);
        due("2: the 81st, OUTSIDE first", x.thing(4, 0), OUTSIDE);
        due("2: the 81st, number OUTSIDE first", x.thing(0, 1000), OUTSIDE);
        due("2: count(0) when full", x.count(0), 80);
        counts("2", x, 0, 0, 0, 0, 0, 0);
    }

    static void promise3Row() {
        ThingRules x = new ThingRules();
        due("3: row(3, 1)", x.row(3, 1), OUTSIDE);
        due("3: row(14, 1)", x.row(14, 1), OUTSIDE);
        due("3: row(4, 7)", x.row(4, 7), OUTSIDE);
        due("3: row(4, highest)", x.row(4, HIGHEST), OUTSIDE);
        due("3: row(14, -1)", x.row(14, -1), OUTSIDE);
        due("3: row(4, -1)", x.row(4, -1), SIZE);
        due("3: row(13, lowest)", x.row(13, LOWEST), SIZE);
        counts("3", x, 0, 0, 0, 0, 2, 0);
        due("3: count(0)", x.count(0), 0);
        for (int form = 4; form < 14; form++) {
            int t = form - 4;
            due("3: row(" + form + ", 6)", x.row(form, 6), t);
            for (int i = 0; i < 6; i++) {
                if (form < 7) {
                    due("3: number at first", x.number(t, form, i), 0);
                } else {
                    due("3: place at first", x.at(t, form, i), NONE);
                }
            }
        }
        due("3: row(8, 0)", x.row(8, 0), 10);
        due("3: no place 0", x.at(10, 8, 0), BEYOND);
        for (int t = 11; t < 80; t++) {
            due("3: row " + t, x.row(4 + t % 10, t % 7), t);
        }
        due("3: the 81st", x.row(4, 1), FULL);
        due("3: the 81st, OUTSIDE first", x.row(4, 7), OUTSIDE);
        due("3: the 81st, FULL ahead of SIZE", x.row(4, -1), FULL);
        counts("3, full", x, 0, 0, 1, 0, 2, 0);
    }

    static void promise4Lay() {
        ThingRules x = withAllForms();
        int[] part = {4, 0, 1, 2, 14, 8, 9};
        int casts = 0;
        for (int kind = 7; kind < 14; kind++) {
            for (int other = 0; other < 14; other++) {
                boolean fits = x.is(other, part[kind - 7]) == 1;
                casts += fits ? 0 : 1;
                due("4: lay(" + kind + ", " + kind + ", 1, " + other + ")", x.lay(kind, kind, 1, other), fits ? 1 : CAST);
                if (fits) {
                    due("4: laid", x.at(kind, kind, 1), other);
                    due("4: the other place", x.at(kind, kind, 0), NONE);
                }
            }
        }
        counts("4", x, casts, 0, 0, 0, 0, 0);
        due("4: UNKNOWN thing", x.lay(14, 8, 0, 0), UNKNOWN);
        due("4: UNKNOWN thing NONE", x.lay(NONE, 8, 0, 0), UNKNOWN);
        due("4: UNKNOWN other", x.lay(8, 8, 0, 14), UNKNOWN);
        due("4: UNKNOWN other -1", x.lay(8, 8, 0, -1), UNKNOWN);
        due("4: UNKNOWN ahead of OUTSIDE", x.lay(8, 6, 0, 14), UNKNOWN);
        due("4: OUTSIDE 6", x.lay(8, 6, 0, 0), OUTSIDE);
        due("4: OUTSIDE 14", x.lay(8, 14, 0, 0), OUTSIDE);
        due("4: OUTSIDE 15", x.lay(8, 15, 9, 0), OUTSIDE);
        due("4: CAST of the first ahead of BEYOND", x.lay(8, 9, 2, 1), CAST);
        due("4: CAST of the other ahead of BEYOND", x.lay(8, 8, 2, 3), CAST);
        due("4: BEYOND ahead of STORE", x.lay(9, 8, 2, 0), BEYOND);
        due("4: BEYOND -1", x.lay(9, 8, -1, 1), BEYOND);
        due("4: BEYOND lowest", x.lay(9, 8, LOWEST, 1), BEYOND);
        due("4: BEYOND with NOTHING", x.lay(9, 8, 2, NONE), BEYOND);
        x.lay(9, 9, 0, 1);
        due("4: STORE, marks", x.lay(9, 8, 0, 0), STORE);
        due("4: STORE, told", x.lay(9, 11, 0, 3), STORE);
        due("4: STORE, shelf", x.lay(13, 12, 0, 8), STORE);
        due("4: a refused place stays", x.at(9, 9, 0), 1);
        due("4: NOTHING is never refused", x.lay(9, 8, 0, NONE), 1);
        due("4: NOTHING laid", x.at(9, 11, 0), NONE);
        due("4: seals taken for told", x.lay(9, 11, 0, 1), 1);
        due("4: seals taken for told, laid", x.at(9, 9, 0), 1);
        counts("4, end", x, casts + 2, 0, 4, 3, 0, 0);
    }

    static void promise5Half() {
        ThingRules x = withAllForms();
        due("5: left", x.half(2, 0, 3), 1);
        due("5: right", x.half(2, 1, 2), 1);
        due("5: left holds", x.at(2, 2, 0), 3);
        due("5: right holds", x.at(2, 2, 1), 2);
        due("5: left NOTHING", x.half(2, 0, NONE), 1);
        due("5: left holds NOTHING", x.at(2, 2, 0), NONE);
        due("5: right stays", x.at(2, 2, 1), 2);
        due("5: UNKNOWN thing", x.half(14, 0, 0), UNKNOWN);
        due("5: UNKNOWN NONE", x.half(NONE, 0, 0), UNKNOWN);
        due("5: UNKNOWN other", x.half(2, 0, 14), UNKNOWN);
        due("5: UNKNOWN other -6", x.half(2, 0, -6), UNKNOWN);
        due("5: UNKNOWN ahead of OUTSIDE", x.half(2, 2, 14), UNKNOWN);
        due("5: OUTSIDE 2", x.half(2, 2, 0), OUTSIDE);
        due("5: OUTSIDE -1", x.half(2, -1, 0), OUTSIDE);
        due("5: OUTSIDE ahead of CAST", x.half(0, 2, 0), OUTSIDE);
        for (int t = 0; t < 14; t++) {
            if (t != 2) {
                due("5: CAST " + t, x.half(t, 0, 0), CAST);
            }
        }
        counts("5", x, 13, 0, 0, 0, 0, 0);
    }

    static void promise6Put() {
        ThingRules x = withAllForms();
        long[] puts = {0, 1, -1, 65535, 65536, 65601, 1L << 31, 1L << 32, 4294967297L, Long.MAX_VALUE, Long.MIN_VALUE};
        for (long v : puts) {
            due("6: put ints " + v, x.put(4, 4, 0, v), 1);
            due("6: ints " + v, x.number(4, 4, 0), (int) v);
            due("6: put longs " + v, x.put(5, 5, 1, v), 1);
            due("6: longs " + v, x.number(5, 5, 1), v);
            due("6: put chars " + v, x.put(6, 6, 1, v), 1);
            due("6: chars " + v, x.number(6, 6, 1), v & 65535L);
        }
        due("6: the other place", x.number(4, 4, 1), 0);
        due("6: UNKNOWN", x.put(14, 4, 0, 1), UNKNOWN);
        due("6: UNKNOWN NONE", x.put(NONE, 4, 0, 1), UNKNOWN);
        due("6: UNKNOWN ahead of OUTSIDE", x.put(14, 7, 0, 1), UNKNOWN);
        due("6: OUTSIDE 3", x.put(4, 3, 0, 1), OUTSIDE);
        due("6: OUTSIDE 7", x.put(7, 7, 0, 1), OUTSIDE);
        due("6: OUTSIDE 15", x.put(4, 15, 0, 1), OUTSIDE);
        due("6: CAST", x.put(4, 5, 0, 1), CAST);
        due("6: CAST of a mark", x.put(0, 4, 0, 1), CAST);
        due("6: CAST ahead of BEYOND", x.put(6, 4, 2, 1), CAST);
        due("6: BEYOND 2", x.put(4, 4, 2, 1), BEYOND);
        due("6: BEYOND -1", x.put(6, 6, -1, 1), BEYOND);
        due("6: BEYOND highest", x.put(5, 5, HIGHEST, 1), BEYOND);
        counts("6", x, 3, 0, 3, 0, 0, 0);
    }

    static void promise7Number() {
        ThingRules x = withAllForms();
        x.put(5, 5, 1, 1L << 40);
        due("7: longs", x.number(5, 5, 1), 1L << 40);
        due("7: UNKNOWN", x.number(14, 4, 0), 0);
        due("7: UNKNOWN NONE", x.number(NONE, 4, 0), 0);
        due("7: OUTSIDE 3", x.number(4, 3, 0), 0);
        due("7: OUTSIDE 7", x.number(7, 7, 0), 0);
        due("7: OUTSIDE ahead of BEYOND", thrown(x, 4, 7, 9), 0);
        due("7: nothing thrown", thrown(x, 4, 4, 1), 0);
        for (int t = 0; t < 14; t++) {
            for (int kind = 4; kind < 7; kind++) {
                due("7: number(" + t + ", " + kind + ", 0)", thrown(x, t, kind, 0), t == kind ? 0 : 1);
                due("7: number(" + t + ", " + kind + ", 2)", thrown(x, t, kind, 2), t == kind ? 2 : 1);
                due("7: number(" + t + ", " + kind + ", -1)", thrown(x, t, kind, -1), t == kind ? 2 : 1);
            }
        }
        counts("7: number counts none", x, 0, 0, 0, 0, 0, 0);
    }

    static void promise8At() {
        ThingRules x = withAllForms();
        x.half(2, 0, 2);
        x.half(2, 1, 0);
        x.lay(9, 9, 0, 1);
        x.lay(13, 13, 1, 9);
        due("8: left", x.at(2, 2, 0), 2);
        due("8: right", x.at(2, 2, 1), 0);
        due("8: seals", x.at(9, 9, 0), 1);
        due("8: seals as marks", x.at(9, 8, 0), 1);
        due("8: seals as told", x.at(9, 11, 0), 1);
        due("8: shelf of seals", x.at(13, 12, 1), 9);
        due("8: NOTHING", x.at(13, 13, 0), NONE);
        due("8: UNKNOWN", x.at(14, 8, 0), UNKNOWN);
        due("8: UNKNOWN NONE", x.at(NONE, 2, 0), UNKNOWN);
        due("8: UNKNOWN ahead of OUTSIDE", x.at(14, 3, 0), UNKNOWN);
        int[] outside = {-1, 0, 1, 3, 4, 5, 6, 14, 15, 16};
        for (int kind : outside) {
            due("8: OUTSIDE " + kind, x.at(8, kind, 0), OUTSIDE);
        }
        due("8: half 2", x.at(2, 2, 2), OUTSIDE);
        due("8: half -1", x.at(2, 2, -1), OUTSIDE);
        due("8: half ahead of CAST", x.at(0, 2, 2), OUTSIDE);
        counts("8: refused", x, 0, 0, 0, 0, 0, 0);
        due("8: CAST to a pair", x.at(0, 2, 1), CAST);
        due("8: CAST", x.at(8, 9, 0), CAST);
        due("8: CAST ahead of BEYOND", x.at(12, 13, 2), CAST);
        due("8: BEYOND", x.at(9, 11, 2), BEYOND);
        due("8: BEYOND -1", x.at(7, 7, -1), BEYOND);
        counts("8", x, 3, 0, 2, 0, 0, 0);
    }

    static void promise9Is() {
        ThingRules x = withAllForms();
        String[] more = new String[14];
        java.util.Arrays.fill(more, "");
        more[1] = " 0 14 ";
        more[3] = " 14 ";
        more[9] = " 8 11 ";
        more[13] = " 12 ";
        for (int t = 0; t < 14; t++) {
            for (int kind = 0; kind < 16; kind++) {
                boolean want = kind == t || kind == 15 || more[t].contains(" " + kind + " ");
                due("9: is(" + t + ", " + kind + ")", x.is(t, kind), want ? 1 : 0);
            }
        }
        due("9: UNKNOWN", x.is(14, 0), UNKNOWN);
        due("9: UNKNOWN NONE", x.is(NONE, 15), UNKNOWN);
        due("9: UNKNOWN ahead of OUTSIDE", x.is(-1, 16), UNKNOWN);
        due("9: OUTSIDE 16", x.is(0, 16), OUTSIDE);
        due("9: OUTSIDE -1", x.is(0, -1), OUTSIDE);
        counts("9", x, 0, 0, 0, 0, 0, 0);
    }

    static void promise10Pattern() {
        ThingRules x = new ThingRules();
        int none = x.pattern(2, 99, 99, 99);
        due("10: NONE's numbers count for nothing", none, 0);
        int[][] range = {{0, 15}, {0, 15}, null, null, {7, 13}, {7, 13}, {4, 6}, null, null, null, {0, 3}, {0, 3}, null, {4, 13}};
        int made = 1;
        for (int sort = 0; sort < 14; sort++) {
            if (range[sort] != null) {
                int low = range[sort][0];
                int high = range[sort][1];
                due("10: sort " + sort + " below", x.pattern(sort, low - 1, 99, 99), OUTSIDE);
                due("10: sort " + sort + " above", x.pattern(sort, high + 1, 99, 99), OUTSIDE);
                due("10: sort " + sort + " lowest", x.pattern(sort, low, 0, 0), made++);
                due("10: sort " + sort + " highest", x.pattern(sort, high, 0, 0), made++);
            }
        }
        due("10: SORT -1", x.pattern(-1, 0, 0, 0), OUTSIDE);
        due("10: SORT 14", x.pattern(14, 0, 0, 0), OUTSIDE);
        int next = made;
        due("10: SURE", x.pattern(1, 0, next, 0), UNKNOWN);
        due("10: HALVES a", x.pattern(3, next, 0, 0), UNKNOWN);
        due("10: HALVES b", x.pattern(3, 0, next, 0), UNKNOWN);
        due("10: EACH", x.pattern(4, 7, next, 0), UNKNOWN);
        due("10: PLACE", x.pattern(5, 7, 0, next), UNKNOWN);
        due("10: BOTH a", x.pattern(7, -1, 0, 0), UNKNOWN);
        due("10: BOTH b", x.pattern(7, 0, -1, 0), UNKNOWN);
        due("10: EITHER a", x.pattern(8, next, 0, 0), UNKNOWN);
        due("10: EITHER b", x.pattern(8, 0, LOWEST, 0), UNKNOWN);
        due("10: NOT", x.pattern(9, next, 0, 0), UNKNOWN);
        due("10: count(1)", x.count(1), made);
        due("10: IS counts a alone", x.pattern(0, 0, 99, -99), made++);
        due("10: SURE counts no c", x.pattern(1, 0, 0, 99), made++);
        due("10: HALVES counts no c", x.pattern(3, 0, 0, 99), made++);
        due("10: EACH counts no c", x.pattern(4, 7, 0, 99), made++);
        due("10: PLACE's place may be any", x.pattern(5, 7, LOWEST, 0), made++);
        due("10: DIGIT's may be any", x.pattern(6, 4, HIGHEST, LOWEST), made++);
        due("10: BOTH counts no c", x.pattern(7, 0, 0, -1), made++);
        due("10: EITHER counts no c", x.pattern(8, 0, 0, -1), made++);
        due("10: NOT counts a alone", x.pattern(9, 0, 99, 99), made++);
        due("10: KEEP counts a alone", x.pattern(10, 0, 99, 99), made++);
        due("10: SAME counts a alone", x.pattern(11, 0, 99, 99), made++);
        due("10: TELLS may be any", x.pattern(12, LOWEST, 99, 99), made++);
        due("10: LONG may be any", x.pattern(13, 4, LOWEST, 99), made++);
        while (made < 40) {
            due("10: pattern " + made, x.pattern(2, 0, 0, 0), made++);
        }
        due("10: the 41st", x.pattern(2, 0, 0, 0), FULL);
        due("10: the 41st, UNKNOWN first", x.pattern(9, 40, 0, 0), UNKNOWN);
        due("10: the 41st, OUTSIDE first", x.pattern(4, 6, 40, 0), OUTSIDE);
        due("10: count(1) when full", x.count(1), 40);
    }

    static void promise11MatchKinds() {
        ThingRules x = withAllForms();
        for (int kind = 0; kind < 16; kind++) {
            int is = x.pattern(0, kind, 0, 0);
            due("11: IS NOTHING", x.match(is, NONE), 0);
            for (int t = 0; t < 14; t++) {
                due("11: IS " + kind + " of " + t, x.match(is, t), x.is(t, kind));
            }
        }
        counts("11: IS", x, 0, 0, 0, 0, 0, 0);
    }

    static void promise11MatchSure() {
        ThingRules x = withAllForms();
        int note = x.pattern(0, 3, 0, 0);
        int sure = x.pattern(1, 14, note, 0);
        int nothing = x.pattern(2, 0, 0, 0);
        int sureNothing = x.pattern(1, 14, nothing, 0);
        due("11: SURE fits", x.match(sure, 3), 1);
        due("11: SURE does not fit", x.match(sure, 1), 0);
        due("11: SURE CAST", x.match(sure, 0), CAST);
        due("11: SURE takes one step when it falls", x.count(3), 1);
        due("11: SURE NOTHING", x.match(sure, NONE), 0);
        due("11: SURE of NOTHING fits", x.match(sureNothing, NONE), 1);
        due("11: SURE steps", x.count(3), 2);
        due("11: NONE of a thing", x.match(nothing, 0), 0);
        counts("11: SURE", x, 1, 0, 0, 0, 0, 0);
    }

    static void promise11MatchHalves() {
        ThingRules x = withAllForms();
        int mark = x.pattern(0, 0, 0, 0);
        int told = x.pattern(0, 14, 0, 0);
        int halves = x.pattern(3, mark, told, 0);
        int digit = x.pattern(6, 4, 0, 0);
        int falls = x.pattern(3, mark, digit, 0);
        due("11: HALVES of NOTHING", x.match(halves, NONE), 0);
        due("11: HALVES of a mark", x.match(halves, 0), 0);
        due("11: HALVES step", x.count(3), 1);
        due("11: HALVES, left does not fit", x.match(falls, 2), 0);
        due("11: HALVES, right is not looked at", x.count(3), 2);
        x.half(2, 0, 0);
        due("11: HALVES, right NOTHING falls", x.match(falls, 2), NOTHING);
        due("11: HALVES, right does not fit", x.match(halves, 2), 0);
        due("11: HALVES steps", x.count(3), 3);
        x.half(2, 1, 3);
        due("11: HALVES fits", x.match(halves, 2), 1);
        x.half(2, 0, 3);
        x.half(2, 1, 0);
        due("11: HALVES the other way", x.match(halves, 2), 0);
    }

    static void promise11MatchEach() {
        ThingRules x = withAllForms();
        int empty = x.row(8, 0);
        int seal = x.pattern(0, 1, 0, 0);
        int each = x.pattern(4, 8, seal, 0);
        int telling = x.pattern(12, 23, 0, 0);
        int eachTells = x.pattern(4, 11, telling, 0);
        due("11: EACH of no place", x.match(each, empty), 1);
        due("11: EACH step", x.count(3), 1);
        due("11: EACH of NOTHING", x.match(each, NONE), 0);
        due("11: EACH of another kind", x.match(each, 10), 0);
        due("11: EACH, the first holds NOTHING", x.match(each, 8), 0);
        due("11: EACH steps", x.count(3), 2);
        x.lay(8, 8, 0, 1);
        due("11: EACH, the second holds NOTHING", x.match(each, 8), 0);
        due("11: EACH steps of both", x.count(3), 3);
        x.lay(8, 8, 1, 1);
        due("11: EACH fits", x.match(each, 8), 1);
        x.lay(9, 9, 0, 1);
        due("11: EACH falls at the second", x.match(eachTells, 9), NOTHING);
        x.lay(9, 9, 1, 1);
        due("11: EACH of seals as told", x.match(eachTells, 9), 1);
        due("11: EACH does not take", x.match(eachTells, 8), 0);
        counts("11: EACH", x, 0, 1, 0, 0, 0, 0);
    }

    static void promise11MatchPlace() {
        ThingRules x = withAllForms();
        int nothing = x.pattern(2, 0, 0, 0);
        int mark = x.pattern(0, 0, 0, 0);
        int second = x.pattern(5, 8, 1, nothing);
        int secondMark = x.pattern(5, 8, 1, mark);
        int third = x.pattern(5, 8, 2, nothing);
        int before = x.pattern(5, 8, -1, nothing);
        due("11: PLACE holds NOTHING", x.match(second, 9), 1);
        due("11: PLACE steps", x.count(3), 2);
        x.lay(9, 9, 1, 1);
        due("11: PLACE holds a seal", x.match(second, 9), 0);
        due("11: PLACE holds a mark", x.match(secondMark, 9), 1);
        due("11: PLACE of NOTHING", x.match(second, NONE), NOTHING);
        due("11: PLACE CAST", x.match(second, 11), CAST);
        due("11: PLACE CAST ahead of BEYOND", x.match(third, 11), CAST);
        due("11: PLACE NOTHING ahead of BEYOND", x.match(third, NONE), NOTHING);
        due("11: PLACE BEYOND", x.match(third, 8), BEYOND);
        due("11: PLACE BEYOND -1", x.match(before, 8), BEYOND);
        due("11: PLACE BEYOND step", x.count(3), 1);
        counts("11: PLACE", x, 2, 2, 2, 0, 0, 0);
    }

    static void promise11MatchDigit() {
        ThingRules x = withAllForms();
        int ints = x.pattern(6, 4, 1, -1);
        int longs = x.pattern(6, 5, 1, -1);
        int chars = x.pattern(6, 6, 1, 65535);
        int minus = x.pattern(6, 6, 1, -1);
        int far = x.pattern(6, 4, 2, 0);
        int before = x.pattern(6, 4, -1, 0);
        x.put(4, 4, 1, -1);
        x.put(5, 5, 1, -1);
        x.put(6, 6, 1, -1);
        due("11: DIGIT ints", x.match(ints, 4), 1);
        due("11: DIGIT longs", x.match(longs, 5), 1);
        due("11: DIGIT chars", x.match(chars, 6), 1);
        due("11: DIGIT chars are not below 0", x.match(minus, 6), 0);
        x.put(5, 5, 1, 4294967295L);
        due("11: DIGIT compares the whole long", x.match(longs, 5), 0);
        due("11: DIGIT CAST", x.match(ints, 5), CAST);
        due("11: DIGIT CAST ahead of BEYOND", x.match(far, 0), CAST);
        due("11: DIGIT NOTHING", x.match(far, NONE), NOTHING);
        due("11: DIGIT BEYOND", x.match(far, 4), BEYOND);
        due("11: DIGIT BEYOND -1", x.match(before, 4), BEYOND);
        counts("11: DIGIT", x, 2, 1, 2, 0, 0, 0);
    }

    static void promise11MatchJoined() {
        ThingRules x = withAllForms();
        int mark = x.pattern(0, 0, 0, 0);
        int seal = x.pattern(0, 1, 0, 0);
        int falls = x.pattern(12, 23, 0, 0);
        int both = x.pattern(7, mark, seal, 0);
        int bothFalls = x.pattern(7, seal, falls, 0);
        int either = x.pattern(8, mark, falls, 0);
        int eitherFalls = x.pattern(8, falls, mark, 0);
        int not = x.pattern(9, mark, 0, 0);
        int notFalls = x.pattern(9, falls, 0, 0);
        due("11: BOTH fits", x.match(both, 1), 1);
        due("11: BOTH, the second does not", x.match(both, 0), 0);
        due("11: BOTH, the first does not", x.match(bothFalls, 0), 0);
        due("11: BOTH, the second does not look", x.count(3), 2);
        due("11: BOTH, both fit", x.match(bothFalls, 1), 1);
        due("11: EITHER, the first fits", x.match(either, 0), 1);
        due("11: EITHER, the second does not look", x.count(3), 2);
        due("11: EITHER, the second falls", x.match(either, 2), CAST);
        due("11: EITHER, the second does not fit", x.match(either, 3), 0);
        due("11: EITHER, the first falls", x.match(eitherFalls, 0), CAST);
        due("11: EITHER ends at once", x.count(3), 2);
        due("11: NOT", x.match(not, 1), 0);
        due("11: NOT of NOTHING", x.match(not, NONE), 1);
        due("11: NOT of a finding", x.match(notFalls, 0), CAST);
        due("11: NOT of NOTHING looked into", x.match(notFalls, NONE), NOTHING);
        due("11: NOT of no fit", x.match(notFalls, 3), 1);
    }

    static void promise11MatchTellsAndLong() {
        ThingRules x = withAllForms();
        int seal = x.pattern(12, 23, 0, 0);
        int note = x.pattern(12, 13, 0, 0);
        int low = x.pattern(12, -1997, 0, 0);
        due("11: a SEAL tells 2 times its number and 1", x.match(seal, 1), 1);
        due("11: a NOTE tells its number", x.match(note, 3), 1);
        due("11: a NOTE does not tell another", x.match(seal, 3), 0);
        due("11: the lowest SEAL", x.match(low, x.thing(1, -999)), 1);
        due("11: a MARK tells nothing", x.match(seal, 0), CAST);
        due("11: NOTHING tells nothing", x.match(seal, NONE), NOTHING);
        for (int kind = 4; kind < 14; kind++) {
            int two = x.pattern(13, kind, 2, 0);
            due("11: LONG " + kind, x.match(two, kind), 1);
            due("11: LONG CAST " + kind, x.match(two, 0), CAST);
            due("11: LONG NOTHING " + kind, x.match(two, NONE), NOTHING);
            due("11: LONG three " + kind, x.match(two, x.row(kind, 3)), 0);
        }
        due("11: LONG of seals as marks", x.match(x.pattern(13, 8, 2, 0), 9), 1);
        due("11: LONG of seals as told", x.match(x.pattern(13, 11, 3, 0), 9), 0);
        due("11: LONG of none", x.match(x.pattern(13, 12, 0, 0), x.row(13, 0)), 1);
    }

    static void promise11MatchRefused() {
        ThingRules x = withAllForms();
        int any = x.pattern(0, 15, 0, 0);
        x.match(any, 0);
        due("11: UNKNOWN pattern", x.match(1, 0), UNKNOWN);
        due("11: UNKNOWN pattern -1", x.match(-1, NONE), UNKNOWN);
        due("11: UNKNOWN thing", x.match(any, 14), UNKNOWN);
        due("11: UNKNOWN thing -1", x.match(any, -1), UNKNOWN);
        due("11: a refused match takes no step", x.count(3), 1);
    }

    /** Doubling patterns take 2^(p+1) - 1 steps, so that the 300th and 301st can be met exactly. */
    static void promise11MatchSpent() {
        ThingRules x = new ThingRules();
        int any = x.pattern(10, 0, 0, 0);
        x.thing(0, 0);
        for (int p = 1; p < 8; p++) {
            due("11: doubling " + p, x.pattern(7, p - 1, p - 1, 0), p);
        }
        // 255 + 31 + 7 + 3 steps and their three joints are 299.
        int p = x.pattern(7, 7, 4, 0);
        p = x.pattern(7, p, 2, 0);
        p = x.pattern(7, p, 1, 0);
        due("11: 299 steps", x.match(p, 0), 1);
        due("11: count of 299", x.count(3), 299);
        int exact = x.pattern(9, x.pattern(9, p, 0, 0), 0, 0);
        int even = x.pattern(9, p, 0, 0);
        due("11: 300 steps", x.match(even, 0), 0);
        due("11: count of 300", x.count(3), 300);
        counts("11: not spent", x, 0, 0, 0, 0, 0, 0);
        due("11: 301 steps", x.match(exact, 0), SPENT);
        due("11: count of 301", x.count(3), 300);
        counts("11: spent", x, 0, 0, 0, 0, 0, 1);
        // The 301st would itself fall; it is spent before it looks.
        int late = x.pattern(7, p, x.pattern(6, 4, 0, 0), 0);
        due("11: spent ahead of CAST", x.match(late, 0), SPENT);
        counts("11: spent alone", x, 0, 0, 0, 0, 0, 2);
        due("11: any still fits", x.match(any, 0), 1);
        due("11: its one step", x.count(3), 1);
    }

    static void promise11Deepest() {
        ThingRules x = new ThingRules();
        x.thing(2, 0);
        x.half(0, 0, 0);
        x.half(0, 1, 0);
        x.pattern(10, 2, 0, 0);
        for (int p = 1; p < 40; p++) {
            x.pattern(p % 2 == 0 ? 9 : 3, p - 1, 0, 0);
        }
        int answer = x.match(39, 0);
        due("11: the deepest pattern ends", answer == 0 || answer == 1 || answer == SPENT ? 1 : 0, 1);
    }

    static void promise12Slot() {
        ThingRules x = withAllForms();
        for (int s = 0; s < 4; s++) {
            due("12: KEEP " + s, x.match(x.pattern(10, s, 0, 0), 3 + s), 1);
            for (int other = 0; other < 4; other++) {
                due("12: slot " + other + " after " + s, x.slot(other), other <= s ? 3 + other : NONE);
            }
        }
        due("12: slot(-1)", x.slot(-1), OUTSIDE);
        due("12: slot(4)", x.slot(4), OUTSIDE);
        due("12: slot(lowest)", x.slot(LOWEST), OUTSIDE);
        int same = x.pattern(11, 1, 0, 0);
        due("12: SAME", x.match(same, 4), 1);
        due("12: SAME of another", x.match(same, 3), 0);
        due("12: SAME of NOTHING", x.match(same, NONE), 0);
        due("12: KEEP NOTHING", x.match(1, NONE), 1);
        due("12: slot(1) holds NOTHING", x.slot(1), NONE);
    }

    static void promise12SlotsOfAMatch() {
        ThingRules x = withAllForms();
        int keep0 = x.pattern(10, 0, 0, 0);
        int same0 = x.pattern(11, 0, 0, 0);
        int seal = x.pattern(0, 1, 0, 0);
        int nothing = x.pattern(2, 0, 0, 0);
        int keep1 = x.pattern(10, 1, 0, 0);
        due("12: SAME is NOTHING at first", x.match(same0, NONE), 1);
        int keepThenSeal = x.pattern(7, keep0, seal, 0);
        due("12: kept, but no fit", x.match(keepThenSeal, 0), 0);
        due("12: as before", x.slot(0), NONE);
        due("12: kept and fits", x.match(keepThenSeal, 1), 1);
        due("12: kept", x.slot(0), 1);
        int keepThenFall = x.pattern(7, keep0, x.pattern(12, 0, 0, 0), 0);
        due("12: kept, but a finding", x.match(keepThenFall, 0), CAST);
        due("12: as before the finding", x.slot(0), 1);
        int twins = x.pattern(3, keep0, same0, 0);
        x.half(2, 0, 3);
        x.half(2, 1, 3);
        due("12: SAME sees what this match kept", x.match(twins, 2), 1);
        due("12: kept left", x.slot(0), 3);
        x.half(2, 1, 0);
        due("12: halves differ", x.match(twins, 2), 0);
        x.match(keep0, NONE);
        int eitherKept = x.pattern(8, keepThenSeal, keep1, 0);
        due("12: EITHER by its second", x.match(eitherKept, 0), 1);
        due("12: what its first kept stays, as the match fits", x.slot(0), 0);
        due("12: kept by its second", x.slot(1), 0);
        x.match(keep0, NONE);
        int notKept = x.pattern(9, keepThenSeal, 0, 0);
        due("12: NOT fits", x.match(notKept, 3), 1);
        due("12: what NOT's pattern kept stays", x.slot(0), 3);
        due("12: NOT does not fit", x.match(x.pattern(9, keep0, 0, 0), 0), 0);
        due("12: as before NOT", x.slot(0), 3);
        due("12: nothing fits NOTHING", x.match(nothing, NONE), 1);
    }

    static void promise13Rule() {
        ThingRules x = new ThingRules();
        due("13: UNKNOWN", x.rule(0, 0, 0, 0), UNKNOWN);
        x.pattern(2, 0, 0, 0);
        due("13: UNKNOWN -1", x.rule(-1, 0, 0, 0), UNKNOWN);
        due("13: UNKNOWN ahead of OUTSIDE", x.rule(1, 6, 0, 0), UNKNOWN);
        due("13: ACT -1", x.rule(0, -1, 8, 0), OUTSIDE);
        due("13: ACT 6", x.rule(0, 6, 8, 0), OUTSIDE);
        due("13: LAY KIND 6", x.rule(0, 1, 6, 0), OUTSIDE);
        due("13: LAY KIND 14", x.rule(0, 1, 14, 0), OUTSIDE);
        due("13: count(2)", x.count(2), 0);
        due("13: LAY KIND 7", x.rule(0, 1, 7, LOWEST), 0);
        due("13: LAY KIND 13", x.rule(0, 1, 13, HIGHEST), 1);
        int[] acts = {0, 2, 3, 4, 5};
        for (int k = 0; k < acts.length; k++) {
            due("13: KIND is not looked at", x.rule(0, acts[k], 99, -9), 2 + k);
        }
        for (int r = 7; r < 16; r++) {
            due("13: rule " + r, x.rule(0, 0, 0, 0), r);
            due("13: used at first", x.told(r, 0), 0);
            due("13: fell at first", x.told(r, 1), 0);
        }
        due("13: the 17th", x.rule(0, 0, 0, 0), FULL);
        due("13: the 17th, OUTSIDE first", x.rule(0, 1, 6, 0), OUTSIDE);
        due("13: the 17th, UNKNOWN first", x.rule(1, 0, 0, 0), UNKNOWN);
        due("13: count(2) when full", x.count(2), 16);
    }

    /** Makes one rule whose pattern always fits and keeps nothing; slots are set beforehand. */
    static ThingRules withRule(int act, int kind, int i, int first, int second) {
        ThingRules x = withAllForms();
        x.match(x.pattern(10, 0, 0, 0), first);
        x.match(x.pattern(10, 1, 0, 0), second);
        x.rule(x.pattern(0, 15, 0, 0), act, kind, i);
        return x;
    }

    static void actAnswers(String what, ThingRules x, int want) {
        int first = x.slot(0);
        int second = x.slot(1);
        due("14: " + what, x.apply(0), want);
        due("14: " + what + ", used", x.told(0, 0), 1);
        due("14: " + what + ", fell", x.told(0, 1), 0);
        if (want != 0) {
            due("14: " + what + ", counted", x.count(-want - 20 + 3), 1);
        }
        due("14: " + what + ", slot 0", x.slot(0), first);
        due("14: " + what + ", slot 1", x.slot(1), second);
    }

    static void promise14ApplyLay() {
        ThingRules x = withRule(1, 8, 1, 9, 1);
        actAnswers("LAY", x, 0);
        due("14: LAY laid", x.at(9, 9, 1), 1);
        x = withRule(1, 11, 0, 11, NONE);
        x.lay(11, 11, 0, 3);
        actAnswers("LAY NOTHING", x, 0);
        due("14: LAY laid NOTHING", x.at(11, 11, 0), NONE);
        actAnswers("LAY CAST of the first", withRule(1, 8, 0, 11, 1), CAST);
        actAnswers("LAY CAST of the other", withRule(1, 8, 0, 8, 3), CAST);
        actAnswers("LAY CAST of the other ahead of NOTHING", withRule(1, 8, 0, NONE, 3), CAST);
        actAnswers("LAY NOTHING in slot 0", withRule(1, 8, 0, NONE, 0), NOTHING);
        actAnswers("LAY NOTHING ahead of BEYOND", withRule(1, 8, 9, NONE, NONE), NOTHING);
        actAnswers("LAY CAST ahead of BEYOND", withRule(1, 8, 9, 8, 2), CAST);
        actAnswers("LAY BEYOND", withRule(1, 8, 2, 8, 0), BEYOND);
        actAnswers("LAY BEYOND -1", withRule(1, 8, -1, 8, NONE), BEYOND);
        actAnswers("LAY BEYOND ahead of STORE", withRule(1, 8, 2, 9, 0), BEYOND);
        x = withRule(1, 8, 0, 9, 0);
        actAnswers("LAY STORE", x, STORE);
        due("14: LAY STORE laid none", x.at(9, 9, 0), NONE);
    }

    static void promise14ApplyHalves() {
        for (int side = 0; side < 2; side++) {
            ThingRules x = withRule(2 + side, 99, 99, 2, 5);
            actAnswers("half " + side, x, 0);
            due("14: half " + side, x.at(2, 2, side), 5);
            due("14: other half of " + side, x.at(2, 2, 1 - side), NONE);
            x = withRule(2 + side, 0, 0, 2, NONE);
            x.half(2, side, 1);
            actAnswers("half NOTHING " + side, x, 0);
            due("14: half NOTHING " + side, x.at(2, 2, side), NONE);
            actAnswers("half CAST " + side, withRule(2 + side, 0, 0, 3, 5), CAST);
            actAnswers("half NOTHING in slot 0 " + side, withRule(2 + side, 0, 0, NONE, 5), NOTHING);
        }
    }

    static void promise14ApplyOtherActs() {
        actAnswers("nothing", withRule(0, 0, 0, NONE, 3), 0);
        ThingRules x = withRule(4, 0, 0, 7, NONE);
        due("14: TURN", x.apply(0), 0);
        due("14: TURN slot 0", x.slot(0), NONE);
        due("14: TURN slot 1", x.slot(1), 7);
        x = withRule(5, 99, 1, 4, NONE);
        x.put(4, 4, 1, HIGHEST);
        actAnswers("GROW", x, 0);
        due("14: GROW wraps", x.number(4, 4, 1), LOWEST);
        due("14: GROW again", x.apply(0), 0);
        due("14: GROW once more", x.number(4, 4, 1), LOWEST + 1);
        due("14: GROW one place", x.number(4, 4, 0), 0);
        actAnswers("GROW CAST", withRule(5, 5, 0, 5, NONE), CAST);
        actAnswers("GROW CAST ahead of BEYOND", withRule(5, 4, 2, 0, NONE), CAST);
        actAnswers("GROW NOTHING", withRule(5, 4, 2, NONE, 4), NOTHING);
        actAnswers("GROW BEYOND", withRule(5, 4, 2, 4, NONE), BEYOND);
        actAnswers("GROW BEYOND -1", withRule(5, 4, -1, 4, NONE), BEYOND);
    }

    static void promise14ApplyOrder() {
        ThingRules x = withAllForms();
        int keep2 = x.pattern(10, 2, 0, 0);
        int seal = x.pattern(0, 1, 0, 0);
        int tells = x.pattern(12, 23, 0, 0);
        int keepThenTells = x.pattern(7, keep2, tells, 0);
        due("14: no rules", x.apply(0), NONE);
        due("14: no match, no step", x.count(3), 0);
        x.rule(keepThenTells, 0, 0, 0);
        x.rule(seal, 0, 0, 0);
        x.rule(x.pattern(0, 3, 0, 0), 4, 0, 0);
        due("14: UNKNOWN", x.apply(14), UNKNOWN);
        due("14: NONE is no thing", x.apply(NONE), UNKNOWN);
        due("14: the first fits", x.apply(1), 0);
        due("14: it kept", x.slot(2), 1);
        due("14: later rules rest", x.told(1, 0), 0);
        due("14: the first does not fit, the last does", x.apply(3), 2);
        due("14: steps of the latest match alone", x.count(3), 1);
        due("14: the first fell, no other fits", x.apply(0), NONE);
        due("14: slots as before", x.slot(2), 1);
        due("14: fell", x.told(0, 1), 1);
        due("14: used", x.told(0, 0), 1);
        due("14: no fit is no fall", x.told(1, 1), 0);
        due("14: used last", x.told(2, 0), 1);
        counts("14: falls are counted", x, 1, 0, 0, 0, 0, 0);
    }

    static void promise14ApplyKeepsSlotsOfAnActThatFails() {
        ThingRules x = withAllForms();
        x.rule(x.pattern(10, 0, 0, 0), 5, 0, 0);
        x.rule(x.pattern(0, 15, 0, 0), 0, 0, 0);
        due("14: a finding of the act", x.apply(3), CAST);
        due("14: the match's slots stay", x.slot(0), 3);
        due("14: no other rule is tried", x.told(1, 0), 0);
        due("14: used, with a finding", x.told(0, 0), 1);
    }

    static void promise15Told() {
        ThingRules x = withAllForms();
        int digit = x.pattern(6, 4, 0, 0);
        x.rule(digit, 5, 0, 0);
        due("15: fell 1", x.apply(5), NONE);
        due("15: fell 2", x.apply(6), NONE);
        due("15: used, with a finding", x.apply(4), NOTHING);
        due("15: used", x.told(0, 0), 1);
        due("15: fell", x.told(0, 1), 2);
        due("15: UNKNOWN", x.told(1, 0), UNKNOWN);
        due("15: UNKNOWN -1", x.told(-1, 0), UNKNOWN);
        due("15: UNKNOWN ahead of OUTSIDE", x.told(1, 2), UNKNOWN);
        due("15: OUTSIDE 2", x.told(0, 2), OUTSIDE);
        due("15: OUTSIDE -1", x.told(0, -1), OUTSIDE);
        x.match(digit, 5);
        due("15: a match is no fall", x.told(0, 1), 2);
    }

    static void promise16Count() {
        ThingRules x = withAllForms();
        int digit = x.pattern(6, 4, 2, 0);
        x.rule(digit, 0, 0, 0);
        x.rule(digit, 0, 0, 0);
        due("16: things", x.count(0), 14);
        due("16: patterns", x.count(1), 1);
        due("16: rules", x.count(2), 2);
        due("16: steps ahead of a match", x.count(3), 0);
        x.apply(0);
        counts("16: both fell", x, 2, 0, 0, 0, 0, 0);
        x.apply(4);
        counts("16: both beyond", x, 2, 0, 2, 0, 0, 0);
        x.match(digit, NONE);
        x.row(4, -1);
        x.lay(9, 8, 0, 0);
        counts("16: each", x, 2, 1, 2, 1, 1, 0);
        due("16: steps", x.count(3), 1);
        due("16: -1", x.count(-1), OUTSIDE);
        due("16: 10", x.count(10), OUTSIDE);
        due("16: highest", x.count(HIGHEST), OUTSIDE);
        due("16: lowest", x.count(LOWEST), OUTSIDE);
    }

    static void promise17Clear() {
        ThingRules x = withAllForms();
        x.half(2, 0, 2);
        x.half(2, 1, 2);
        for (int i = 0; i < 2; i++) {
            x.put(4, 4, i, 7);
            x.lay(8, 8, i, 0);
        }
        int keep = x.pattern(10, 0, 0, 0);
        x.rule(x.pattern(6, 4, 0, 0), 0, 0, 0);
        x.rule(keep, 5, 0, 9);
        x.match(keep, 3);
        x.apply(4);
        x.apply(5);
        x.row(4, -1);
        due("17: clear", x.clear(), 14);
        for (int what = 0; what < 10; what++) {
            due("17: count(" + what + ")", x.count(what), 0);
        }
        due("17: slot(0)", x.slot(0), NONE);
        due("17: no thing", x.is(0, 15), UNKNOWN);
        due("17: no pattern", x.match(0, NONE), UNKNOWN);
        due("17: no rule", x.told(0, 0), UNKNOWN);
        for (int t = 0; t < 10; t++) {
            x.row(t % 2 == 0 ? 4 : 8, 2);
        }
        x.thing(2, 0);
        for (int t = 0; t < 10; t++) {
            for (int i = 0; i < 2; i++) {
                due("17: a new row", t % 2 == 0 ? x.number(t, 4, i) : x.at(t, 8, i), t % 2 == 0 ? 0 : NONE);
            }
        }
        due("17: a new pair's left", x.at(10, 2, 0), NONE);
        due("17: a new pair's right", x.at(10, 2, 1), NONE);
        x.rule(x.pattern(2, 0, 0, 0), 0, 0, 0);
        x.rule(0, 0, 0, 0);
        for (int r = 0; r < 2; r++) {
            due("17: a new rule's uses", x.told(r, 0), 0);
            due("17: a new rule's falls", x.told(r, 1), 0);
        }
        due("17: clear again", x.clear(), 11);
        due("17: clear once more", x.clear(), 0);
    }

    static void constants() {
        due("UNKNOWN", ThingRules.UNKNOWN, UNKNOWN);
        due("OUTSIDE", ThingRules.OUTSIDE, OUTSIDE);
        due("FULL", ThingRules.FULL, FULL);
        due("NONE", ThingRules.NONE, NONE);
    }

    public static void main(String[] args) {
        constants();
        promise1NewObject();
        promise2Thing();
        promise3Row();
        promise4Lay();
        promise5Half();
        promise6Put();
        promise7Number();
        promise8At();
        promise9Is();
        promise10Pattern();
        promise11MatchKinds();
        promise11MatchSure();
        promise11MatchHalves();
        promise11MatchEach();
        promise11MatchPlace();
        promise11MatchDigit();
        promise11MatchJoined();
        promise11MatchTellsAndLong();
        promise11MatchRefused();
        promise11MatchSpent();
        promise11Deepest();
        promise12Slot();
        promise12SlotsOfAMatch();
        promise13Rule();
        promise14ApplyLay();
        promise14ApplyHalves();
        promise14ApplyOtherActs();
        promise14ApplyOrder();
        promise14ApplyKeepsSlotsOfAnActThatFails();
        promise15Told();
        promise16Count();
        promise17Clear();
        System.out.println(wrong == 0 ? "all answers are as due" : wrong + " answers are not as due");
        if (wrong != 0) {
            System.exit(1);
        }
    }
}
