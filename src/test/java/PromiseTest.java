/** The promises, sentence by sentence: ordinary inputs, the edges that each names, wrong inputs, and their order. */
public final class PromiseTest implements Words {

    static void isEmpty(Run x) {
        for (int what = THINGS; what <= SPENTS; what++) {
            x.due(0, x.count(what));
        }
        x.slots(NONE, NONE, NONE, NONE);
        x.due(UNKNOWN, x.is(0, ANY));
        x.due(UNKNOWN, x.match(0, NONE));
        x.due(UNKNOWN, x.told(0, USED));
        x.due(UNKNOWN, x.apply(0));
    }

    @Says(promise = 1, words = "Nothing is there.")
    static void aNewObjectIsEmpty() {
        Run x = new Run();
        isEmpty(x);
        x.due(0, x.clear());
    }

    @Says(promise = 1, words = "Nothing is there.")
    static void objectsShareNothing() {
        Run x = new Run();
        Run y = TermsTest.busy();
        y.due(14, y.count(THINGS));
        isEmpty(x);
        x.due(0, x.thing(NOTE, 0));
        y.due(1, y.is(MARK, MARK));
    }

    @Says(promise = 1, words = "Nothing is there.")
    static void theConstantsAreAsTheFaceTells() {
        Run x = new Run();
        x.due(UNKNOWN, ThingRules.UNKNOWN);
        x.due(OUTSIDE, ThingRules.OUTSIDE);
        x.due(FULL, ThingRules.FULL);
        x.due(NONE, ThingRules.NONE);
    }

    @Says(promise = 2, words = "A THING of FORM 0 to 3 with a NUMBER -999 .. 999")
    static void thingsOfFormsZeroToThree() {
        Run x = new Run();
        for (int form = MARK; form <= NOTE; form++) {
            x.due(2 * form, x.thing(form, -999));
            x.due(2 * form + 1, x.thing(form, 999));
            x.due(1, x.is(2 * form, form));
            x.due(1, x.is(2 * form + 1, form));
        }
    }

    @Says(promise = 2, words = "A THING of FORM 0 to 3 with a NUMBER -999 .. 999")
    static void otherFormsAreOutside() {
        Run x = new Run();
        for (int form : new int[] {LOWEST, -1, 4, 5, 13, 14, HIGHEST}) {
            x.due(OUTSIDE, x.thing(form, 0));
        }
        x.due(0, x.count(THINGS));
    }

    @Says(promise = 2, words = "A THING of FORM 0 to 3 with a NUMBER -999 .. 999")
    static void otherNumbersAreOutside() {
        Run x = new Run();
        for (int number : new int[] {LOWEST, -1000, 1000, HIGHEST}) {
            x.due(OUTSIDE, x.thing(MARK, number));
            x.due(OUTSIDE, x.thing(SEAL, number));
            x.due(OUTSIDE, x.thing(NOTE, number));
        }
        x.due(0, x.count(THINGS));
    }

    @Says(promise = 2, words = "(that of a PAIR counts for nothing, but is asked, too): its number.")
    static void theNumberOfAPairIsAskedToo() {
        Run x = new Run();
        for (int number : new int[] {LOWEST, -1000, 1000, HIGHEST}) {
            x.due(OUTSIDE, x.thing(PAIR, number));
        }
        x.due(0, x.thing(PAIR, -999));
        x.due(1, x.thing(PAIR, 999));
    }

    @Says(promise = 2, words = "(that of a PAIR counts for nothing, but is asked, too): its number.")
    static void theNumberOfAPairCountsForNothing() {
        Run x = new Run();
        x.thing(PAIR, 1);
        x.thing(PAIR, 0);
        for (int t = 0; t < 2; t++) {
            x.due(NONE, x.at(t, PAIR, 0));
            x.due(NONE, x.at(t, PAIR, 1));
            x.due(CAST, x.match(x.pattern(TELLS, 1, 0, 0), t));
        }
    }

    @Says(promise = 2, words = "OUTSIDE; FULL.")
    static void aThingBeyondTheEightiethIsFullUnlessOutside() {
        Run x = new Run();
        for (int t = 0; t < 79; t++) {
            x.row(INTS, 0);
        }
        x.due(79, x.thing(PAIR, 0));
        for (int form = MARK; form <= NOTE; form++) {
            x.due(FULL, x.thing(form, 0));
            x.due(OUTSIDE, x.thing(form, 1000));
        }
        x.due(OUTSIDE, x.thing(-1, 0));
        x.due(OUTSIDE, x.thing(4, 0));
        x.due(80, x.count(THINGS));
    }

    @Says(promise = 3, words = "A row, FORM 4 to 13, of n places (6 at most): its number.")
    static void rowsOfFormsFourToThirteen() {
        Run x = new Run();
        for (int form = INTS; form <= SEALS_SHELF; form++) {
            x.due(2 * (form - INTS), x.row(form, 0));
            x.due(2 * (form - INTS) + 1, x.row(form, 6));
            x.due(1, x.is(2 * (form - INTS), form));
            x.due(1, x.match(x.pattern(LONG, form, 0, 0), 2 * (form - INTS)));
            x.due(1, x.match(x.pattern(LONG, form, 6, 0), 2 * (form - INTS) + 1));
        }
    }

    @Says(promise = 3, words = "A row, FORM 4 to 13, of n places (6 at most): its number.")
    static void otherFormsOfRowsAreOutside() {
        Run x = new Run();
        for (int form : new int[] {LOWEST, -1, 0, 2, 3, 14, 15, HIGHEST}) {
            x.due(OUTSIDE, x.row(form, 1));
        }
        x.due(0, x.count(THINGS));
    }

    @Says(promise = 3, words = "A row, FORM 4 to 13, of n places (6 at most): its number.")
    static void moreThanSixPlacesAreOutside() {
        Run x = new Run();
        for (int form = INTS; form <= SEALS_SHELF; form++) {
            x.due(OUTSIDE, x.row(form, 7));
            x.due(OUTSIDE, x.row(form, HIGHEST));
        }
        x.due(0, x.count(THINGS));
    }

    @Says(promise = 3, words = "A row, FORM 4 to 13, of n places (6 at most): its number.")
    static void eachRowHasPlacesOfItsOwn() {
        Run x = new Run();
        for (int row = 0; row < 3; row++) {
            x.row(LONGS, 6);
            for (int i = 0; i < 6; i++) {
                x.due(1, x.put(row, LONGS, i, 10 * row + i));
            }
        }
        for (int row = 0; row < 3; row++) {
            for (int i = 0; i < 6; i++) {
                x.due(10 * row + i, x.number(row, LONGS, i));
            }
        }
    }

    @Says(promise = 3, words = "OUTSIDE; FULL; SIZE.")
    static void aRowIsOutsideThenFullThenOfNoSize() {
        Run x = new Run();
        x.due(OUTSIDE, x.row(14, -1));
        x.due(SIZE, x.row(INTS, -1));
        for (int t = 0; t < 79; t++) {
            x.thing(MARK, 0);
        }
        x.due(SIZE, x.row(SHEET, LOWEST));
        x.due(79, x.row(INTS, 6));
        x.due(OUTSIDE, x.row(NOTE, -1));
        x.due(OUTSIDE, x.row(INTS, 7));
        x.due(FULL, x.row(INTS, -1));
        x.due(FULL, x.row(INTS, 0));
        x.due(2, x.count(SIZES));
        x.due(80, x.count(THINGS));
    }

    static final String LAY_WORDS = "Place i of a THING, TAKEN for a KIND (7 .. 13), becomes another one (NONE: NOTHING),"
            + " TAKEN for what that KIND is a row of: 1.";

    @Says(promise = 4, words = LAY_WORDS)
    static void layLaysAtTheFirstAndTheLastPlace() {
        int[] fitting = {INTS, MARK, SEAL, PAIR, NOTE, MARKS, SEALS};
        Run x = Run.withAllForms();
        for (int kind = SHEET; kind <= SEALS_SHELF; kind++) {
            int row = x.row(kind, 6);
            int other = fitting[kind - SHEET];
            x.due(1, x.lay(row, kind, 0, other));
            x.due(1, x.lay(row, kind, 5, other));
            for (int i = 0; i < 6; i++) {
                x.due(i == 0 || i == 5 ? other : NONE, x.at(row, kind, i));
            }
        }
        x.noFindings();
    }

    @Says(promise = 4, words = LAY_WORDS)
    static void layLaysNothingOverSomething() {
        Run x = Run.withAllForms();
        x.due(1, x.lay(MARKS, MARKS, 1, SEAL));
        x.due(1, x.lay(MARKS, MARKS, 0, MARK));
        x.due(1, x.lay(MARKS, MARKS, 1, NONE));
        x.due(MARK, x.at(MARKS, MARKS, 0));
        x.due(NONE, x.at(MARKS, MARKS, 1));
    }

    @Says(promise = 4, words = LAY_WORDS)
    static void layTakesTheOtherForWhatThatKindIsARowOf() {
        Run x = Run.withAllForms();
        for (int kind = SHEET; kind <= SEALS_SHELF; kind++) {
            for (int row = SHEET; row <= SEALS_SHELF; row++) {
                boolean taken = x.is(row, kind) == 1;
                for (int other : new int[] {MARK, SEAL, NOTE}) {
                    boolean otherTaken = x.is(other, TermsTest.partOf(kind)) == 1;
                    boolean stored = x.is(other, TermsTest.partOf(row)) == 1;
                    x.due(!taken || !otherTaken ? CAST : stored ? 1 : STORE, x.lay(row, kind, 0, other));
                }
                if (x.callsMade() > 400) {
                    x = Run.withAllForms();
                }
            }
        }
    }

    @Says(promise = 4, words = "UNKNOWN: both;")
    static void layAsksForBothThings() {
        Run x = Run.withAllForms();
        for (int t : new int[] {LOWEST, -6, -4, -1, 14, 79, 80, HIGHEST}) {
            x.due(UNKNOWN, x.lay(t, MARKS, 0, MARK));
            x.due(UNKNOWN, x.lay(MARKS, MARKS, 0, t));
            x.due(UNKNOWN, x.lay(t, CHARS, 0, t));
        }
        x.due(UNKNOWN, x.lay(NONE, MARKS, 0, MARK));
        x.due(UNKNOWN, x.lay(NONE, MARKS, 0, NONE));
        x.due(NONE, x.at(MARKS, MARKS, 0));
        x.noFindings();
    }

    @Says(promise = 4, words = "OUTSIDE;")
    static void layAsksForTheKind() {
        Run x = Run.withAllForms();
        for (int kind : new int[] {LOWEST, -1, 0, 2, 4, 6, 14, 15, 16, HIGHEST}) {
            x.due(OUTSIDE, x.lay(MARKS, kind, 0, MARK));
            x.due(OUTSIDE, x.lay(PAIR, kind, 9, NONE));
        }
        x.noFindings();
    }

    @Says(promise = 4, words = "CAST: the first, then the other; BEYOND; STORE.")
    static void layFindsInTheOrderThatIsTold() {
        Run x = Run.withAllForms();
        x.due(CAST, x.lay(TOLDS, MARKS, 2, MARK));
        x.due(CAST, x.lay(MARKS, MARKS, 2, NOTE));
        x.due(CAST, x.lay(SEALS, MARKS, 0, NOTE));
        x.due(CAST, x.lay(MARK, MARKS, 0, NONE));
        x.findings(4, 0, 0, 0, 0, 0);
        x.due(BEYOND, x.lay(SEALS, MARKS, 2, MARK));
        x.due(BEYOND, x.lay(SEALS, MARKS, -1, SEAL));
        x.due(BEYOND, x.lay(SEALS, MARKS, 2, NONE));
        x.due(STORE, x.lay(SEALS, MARKS, 1, MARK));
        x.findings(4, 0, 3, 1, 0, 0);
    }

    @Says(promise = 4, words = "CAST: the first, then the other; BEYOND; STORE.")
    static void aPlaceHoldsWhatItHeldAfterAFinding() {
        Run x = Run.withAllForms();
        x.lay(SEALS, SEALS, 0, SEAL);
        x.lay(SEALS, SEALS, 1, SEAL);
        String before = x.holdings();
        x.due(CAST, x.lay(SEALS, PAIRS, 0, NONE));
        x.due(CAST, x.lay(SEALS, SEALS, 0, MARK));
        x.due(BEYOND, x.lay(SEALS, SEALS, 2, NONE));
        x.due(STORE, x.lay(SEALS, MARKS, 0, MARK));
        x.due(before, x.holdings());
    }

    @Says(promise = 5, words = "LEFT (side 0) or RIGHT (1) of a THING, TAKEN for a PAIR, becomes another one (NONE: NOTHING): 1.")
    static void halfSetsOneHalfAlone() {
        Run x = Run.withAllForms();
        x.due(1, x.half(PAIR, 0, NOTE));
        x.due(NOTE, x.at(PAIR, PAIR, 0));
        x.due(NONE, x.at(PAIR, PAIR, 1));
        x.due(1, x.half(PAIR, 1, PAIR));
        x.due(NOTE, x.at(PAIR, PAIR, 0));
        x.due(PAIR, x.at(PAIR, PAIR, 1));
        x.due(1, x.half(PAIR, 0, NONE));
        x.due(NONE, x.at(PAIR, PAIR, 0));
        x.due(PAIR, x.at(PAIR, PAIR, 1));
        x.due(1, x.half(PAIR, 1, NONE));
        x.due(NONE, x.at(PAIR, PAIR, 1));
    }

    @Says(promise = 5, words = "UNKNOWN: both; OUTSIDE; CAST.")
    static void halfAsksForBothThings() {
        Run x = Run.withAllForms();
        for (int t : new int[] {LOWEST, -6, -4, -1, 14, 80, HIGHEST}) {
            x.due(UNKNOWN, x.half(t, 0, MARK));
            x.due(UNKNOWN, x.half(PAIR, 0, t));
            x.due(UNKNOWN, x.half(t, 2, MARK));
            x.due(UNKNOWN, x.half(PAIR, -1, t));
            x.due(UNKNOWN, x.half(MARK, 0, t));
        }
        x.due(UNKNOWN, x.half(NONE, 0, MARK));
        x.noFindings();
    }

    @Says(promise = 5, words = "UNKNOWN: both; OUTSIDE; CAST.")
    static void halfAsksForTheSide() {
        Run x = Run.withAllForms();
        for (int side : new int[] {LOWEST, -1, 2, HIGHEST}) {
            x.due(OUTSIDE, x.half(PAIR, side, MARK));
            x.due(OUTSIDE, x.half(MARK, side, MARK));
        }
        x.due(NONE, x.at(PAIR, PAIR, 0));
        x.due(NONE, x.at(PAIR, PAIR, 1));
        x.noFindings();
    }

    @Says(promise = 5, words = "UNKNOWN: both; OUTSIDE; CAST.")
    static void halfOfWhatIsNoPairIsACast() {
        Run x = Run.withAllForms();
        for (int t = 0; t < Run.FORMS; t++) {
            if (t != PAIR) {
                x.due(CAST, x.half(t, 0, MARK));
                x.due(CAST, x.half(t, 1, NONE));
            }
        }
        x.findings(26, 0, 0, 0, 0, 0);
    }

    @Says(promise = 6, words = "Place i of a THING, TAKEN for a KIND (4 .. 6), becomes v")
    static void putPutsAtTheFirstAndTheLastPlace() {
        Run x = new Run();
        for (int form = INTS; form <= CHARS; form++) {
            int row = x.row(form, 6);
            x.due(1, x.put(row, form, 0, 7));
            x.due(1, x.put(row, form, 5, 8));
            for (int i = 0; i < 6; i++) {
                x.due(i == 0 ? 7 : i == 5 ? 8 : 0, x.number(row, form, i));
            }
        }
    }

    /** What is put becomes its lowest bits. */
    static void becomes(int form, long v, long want) {
        Run x = new Run();
        x.row(form, 1);
        x.due(1, x.put(0, form, 0, v));
        x.due(want, x.number(0, form, 0));
    }

    @Says(promise = 6, words = "(its lowest 32, 64, 16 bits): 1.")
    static void intsWrapAtThirtyTwoBits() {
        becomes(INTS, HIGHEST, HIGHEST);
        becomes(INTS, LOWEST, LOWEST);
        becomes(INTS, HIGHEST + 1L, LOWEST);
        becomes(INTS, LOWEST - 1L, HIGHEST);
        becomes(INTS, 4294967295L, -1);
        becomes(INTS, 4294967296L, 0);
        becomes(INTS, 4294967297L, 1);
        becomes(INTS, -4294967297L, -1);
        becomes(INTS, Long.MAX_VALUE, -1);
        becomes(INTS, Long.MIN_VALUE, 0);
    }

    @Says(promise = 6, words = "(its lowest 32, 64, 16 bits): 1.")
    static void longsKeepAllBits() {
        for (long v : new long[] {Long.MIN_VALUE, LOWEST - 1L, -1, 0, 1, HIGHEST + 1L, 4294967297L, Long.MAX_VALUE}) {
            becomes(LONGS, v, v);
        }
    }

    @Says(promise = 6, words = "(its lowest 32, 64, 16 bits): 1.")
    static void charsWrapAtSixteenBitsAndAreNotBelowZero() {
        becomes(CHARS, 0, 0);
        becomes(CHARS, 32767, 32767);
        becomes(CHARS, 32768, 32768);
        becomes(CHARS, 65535, 65535);
        becomes(CHARS, 65536, 0);
        becomes(CHARS, 65601, 65);
        becomes(CHARS, -1, 65535);
        becomes(CHARS, -65536, 0);
        becomes(CHARS, 4294967297L, 1);
        becomes(CHARS, Long.MAX_VALUE, 65535);
        becomes(CHARS, Long.MIN_VALUE, 0);
    }

    @Says(promise = 6, words = "UNKNOWN; OUTSIDE; CAST; BEYOND.")
    static void putAsksForTheThingAndTheKind() {
        Run x = Run.withAllForms();
        for (int t : new int[] {LOWEST, NONE, -1, 14, 80, HIGHEST}) {
            x.due(UNKNOWN, x.put(t, INTS, 0, 1));
            x.due(UNKNOWN, x.put(t, SHEET, 0, 1));
        }
        for (int kind : new int[] {LOWEST, -1, 0, 3, 7, 15, 16, HIGHEST}) {
            x.due(OUTSIDE, x.put(INTS, kind, 0, 1));
            x.due(OUTSIDE, x.put(MARK, kind, 9, 1));
        }
        x.due(0, x.number(INTS, INTS, 0));
        x.noFindings();
    }

    @Says(promise = 6, words = "UNKNOWN; OUTSIDE; CAST; BEYOND.")
    static void putFindsCastAheadOfBeyond() {
        Run x = Run.withAllForms();
        int casts = 0;
        for (int kind = INTS; kind <= CHARS; kind++) {
            for (int t = 0; t < Run.FORMS; t++) {
                casts += t == kind ? 0 : 3;
                x.due(t == kind ? 1 : CAST, x.put(t, kind, 1, 5));
                x.due(t == kind ? BEYOND : CAST, x.put(t, kind, 2, 6));
                x.due(t == kind ? BEYOND : CAST, x.put(t, kind, -1, 6));
            }
            x.due(0, x.number(kind, kind, 0));
            x.due(5, x.number(kind, kind, 1));
        }
        x.findings(casts, 0, 6, 0, 0, 0);
    }

    @Says(promise = 7, words = "The number at place i of a THING, TAKEN for a KIND (4 .. 6).")
    static void numberAnswersThatPlace() {
        Run x = Run.withAllForms();
        x.put(LONGS, LONGS, 0, Long.MIN_VALUE);
        x.put(LONGS, LONGS, 1, Long.MAX_VALUE);
        x.due(Long.MIN_VALUE, x.number(LONGS, LONGS, 0));
        x.due(Long.MAX_VALUE, x.number(LONGS, LONGS, 1));
        x.due(0, x.number(INTS, INTS, 1));
        x.due(0, x.number(CHARS, CHARS, 0));
    }

    @Says(promise = 7, words = "0: UNKNOWN, OUTSIDE.")
    static void numberOfWhatIsUnknownOrOutsideIsZero() {
        Run x = Run.withAllForms();
        x.put(INTS, INTS, 0, 5);
        for (int t : new int[] {LOWEST, NONE, -1, 14, 80, HIGHEST}) {
            x.due(0, x.number(t, INTS, 0));
            x.due(0, x.number(t, INTS, -1));
            x.due(0, x.number(t, SHEET, 0));
        }
        for (int kind : new int[] {LOWEST, -1, 0, 3, 7, 15, 16, HIGHEST}) {
            x.due(0, x.number(INTS, kind, 0));
            x.due(0, x.number(INTS, kind, 2));
            x.due(0, x.number(MARK, kind, 0));
        }
        x.noFindings();
    }

    @Says(promise = 7, words = "ClassCastException: CAST; ArrayIndexOutOfBoundsException: BEYOND.")
    static void numberThrowsForACastAheadOfBeyond() {
        Run x = Run.withAllForms();
        for (int kind = INTS; kind <= CHARS; kind++) {
            for (int t = 0; t < Run.FORMS; t++) {
                x.due(t == kind ? 0 : CAST, x.thrown(t, kind, 1));
                x.due(t == kind ? BEYOND : CAST, x.thrown(t, kind, 2));
                x.due(t == kind ? BEYOND : CAST, x.thrown(t, kind, -1));
            }
        }
    }

    @Says(promise = 7, words = "ClassCastException: CAST; ArrayIndexOutOfBoundsException: BEYOND.")
    static void numberThrowsForEachPlaceThatIsNotThere() {
        for (int n : new int[] {0, 1, 6}) {
            Run x = new Run();
            x.row(INTS, n);
            for (int i : new int[] {LOWEST, -1, 0, 1, 5, 6, 7, HIGHEST}) {
                x.due(i >= 0 && i < n ? 0 : BEYOND, x.thrown(0, INTS, i));
            }
        }
    }

    @Says(promise = 8, words = "What place i of a THING holds, TAKEN for a KIND (7 .. 13), or (KIND 2) its half i (0, 1): a THING; NONE.")
    static void atAnswersWhatAPlaceOrAHalfHolds() {
        Run x = Run.withAllForms();
        x.half(PAIR, 1, NOTE);
        x.lay(SEALS, SEALS, 1, SEAL);
        x.lay(SEALS_SHELF, SEALS_SHELF, 0, SEALS);
        x.due(NONE, x.at(PAIR, PAIR, 0));
        x.due(NOTE, x.at(PAIR, PAIR, 1));
        for (int kind : new int[] {SEALS, MARKS, TOLDS}) {
            x.due(NONE, x.at(SEALS, kind, 0));
            x.due(SEAL, x.at(SEALS, kind, 1));
        }
        for (int kind : new int[] {SEALS_SHELF, MARKS_SHELF}) {
            x.due(SEALS, x.at(SEALS_SHELF, kind, 0));
            x.due(NONE, x.at(SEALS_SHELF, kind, 1));
        }
    }

    static final String AT_REFUSED = "UNKNOWN; OUTSIDE: the KIND, a half; CAST; BEYOND.";

    @Says(promise = 8, words = AT_REFUSED)
    static void atAsksForTheThing() {
        Run x = Run.withAllForms();
        for (int t : new int[] {LOWEST, NONE, -1, 14, 80, HIGHEST}) {
            x.due(UNKNOWN, x.at(t, SHEET, 0));
            x.due(UNKNOWN, x.at(t, PAIR, 0));
            x.due(UNKNOWN, x.at(t, PAIR, 2));
            x.due(UNKNOWN, x.at(t, CHARS, 0));
        }
        x.noFindings();
    }

    @Says(promise = 8, words = AT_REFUSED)
    static void atAsksForTheKind() {
        Run x = Run.withAllForms();
        for (int kind : new int[] {LOWEST, -1, 0, 1, 3, 4, 5, 6, 14, 15, 16, HIGHEST}) {
            for (int t = 0; t < Run.FORMS; t++) {
                x.due(OUTSIDE, x.at(t, kind, 0));
                x.due(OUTSIDE, x.at(t, kind, 9));
            }
        }
        x.noFindings();
    }

    @Says(promise = 8, words = AT_REFUSED)
    static void atAsksForTheHalfAheadOfACast() {
        Run x = Run.withAllForms();
        for (int i : new int[] {LOWEST, -1, 2, HIGHEST}) {
            x.due(OUTSIDE, x.at(PAIR, PAIR, i));
            x.due(OUTSIDE, x.at(MARK, PAIR, i));
        }
        x.noFindings();
    }

    @Says(promise = 8, words = AT_REFUSED)
    static void atFindsACastOfWhatIsNoPair() {
        Run x = Run.withAllForms();
        for (int t = 0; t < Run.FORMS; t++) {
            x.due(t == PAIR ? NONE : CAST, x.at(t, PAIR, 0));
            x.due(t == PAIR ? NONE : CAST, x.at(t, PAIR, 1));
        }
        x.findings(26, 0, 0, 0, 0, 0);
    }

    @Says(promise = 8, words = AT_REFUSED)
    static void atFindsCastAheadOfBeyond() {
        Run x = Run.withAllForms();
        int casts = 0;
        int beyonds = 0;
        for (int kind = SHEET; kind <= SEALS_SHELF; kind++) {
            for (int t = 0; t < Run.FORMS; t++) {
                boolean taken = x.is(t, kind) == 1;
                casts += taken ? 0 : 2;
                beyonds += taken ? 2 : 0;
                x.due(taken ? BEYOND : CAST, x.at(t, kind, 2));
                x.due(taken ? BEYOND : CAST, x.at(t, kind, -1));
            }
        }
        x.findings(casts, 0, beyonds, 0, 0, 0);
    }

    @Says(promise = 9, words = "Whether a THING IS of a KIND (0 .. 15): 1, 0.")
    static void isAnswersForTheLowestAndTheHighestKind() {
        Run x = Run.withAllForms();
        for (int t = 0; t < Run.FORMS; t++) {
            x.due(t == MARK || t == SEAL ? 1 : 0, x.is(t, 0));
            x.due(t == SEAL || t == NOTE ? 1 : 0, x.is(t, 14));
            x.due(1, x.is(t, 15));
        }
        x.noFindings();
    }

    @Says(promise = 9, words = "UNKNOWN; OUTSIDE.")
    static void isAsksForTheThingThenForTheKind() {
        Run x = Run.withAllForms();
        for (int t : new int[] {LOWEST, NONE, -1, 14, 80, HIGHEST}) {
            x.due(UNKNOWN, x.is(t, 15));
            x.due(UNKNOWN, x.is(t, 16));
        }
        for (int kind : new int[] {LOWEST, -1, 16, HIGHEST}) {
            x.due(OUTSIDE, x.is(MARK, kind));
        }
    }

    @Says(promise = 10, words = "A PATTERN: its number.")
    static void patternsOfAllSortsAreNumbered() {
        Run x = new Run();
        int[] lowest = {MARK, MARK, 0, 0, SHEET, SHEET, INTS, 0, 0, 0, 0, 0, 0, INTS};
        x.due(0, x.anyThing());
        for (int sort = 0; sort < 14; sort++) {
            x.due(sort + 1, x.pattern(sort, lowest[sort], 0, 0));
        }
        x.due(15, x.count(PATTERNS));
    }

    static final String PATTERN_OUTSIDE = "OUTSIDE: SORT (0 .. 13), a KIND (0 .. 15, or as told), a SLOT (0 .. 3);";

    @Says(promise = 10, words = PATTERN_OUTSIDE)
    static void otherSortsAreOutside() {
        Run x = new Run();
        x.anyThing();
        for (int sort : new int[] {LOWEST, -1, 14, HIGHEST}) {
            x.due(OUTSIDE, x.pattern(sort, 0, 0, 0));
            x.due(OUTSIDE, x.pattern(sort, 9, 9, 9));
        }
        x.due(1, x.count(PATTERNS));
    }

    /** The sort's a may be low to high, and nothing else. */
    static void aIsWithin(int sort, int low, int high) {
        Run x = new Run();
        x.anyThing();
        for (int a : new int[] {LOWEST, low - 1, high + 1, HIGHEST}) {
            x.due(OUTSIDE, x.pattern(sort, a, 0, 0));
        }
        for (int a = low; a <= high; a++) {
            x.due(1 + a - low, x.pattern(sort, a, 0, 0));
        }
        x.due(2 + high - low, x.count(PATTERNS));
    }

    @Says(promise = 10, words = PATTERN_OUTSIDE)
    static void theKindOfIsAndSure() {
        aIsWithin(IS, 0, 15);
        aIsWithin(SURE, 0, 15);
    }

    @Says(promise = 10, words = PATTERN_OUTSIDE)
    static void theKindOfEachAndPlace() {
        aIsWithin(EACH, 7, 13);
        aIsWithin(PLACE, 7, 13);
    }

    @Says(promise = 10, words = PATTERN_OUTSIDE)
    static void theKindOfDigit() {
        aIsWithin(DIGIT, 4, 6);
    }

    @Says(promise = 10, words = PATTERN_OUTSIDE)
    static void theKindOfLong() {
        aIsWithin(LONG, 4, 13);
    }

    @Says(promise = 10, words = PATTERN_OUTSIDE)
    static void theSlotOfKeepAndSame() {
        aIsWithin(KEEP, 0, 3);
        aIsWithin(SAME, 0, 3);
    }

    @Says(promise = 10, words = "then UNKNOWN: a PATTERN that it names; FULL.")
    static void aPatternIsOutsideThenUnknownThenFull() {
        Run x = new Run();
        x.due(OUTSIDE, x.pattern(SURE, 16, 0, 0));
        x.due(OUTSIDE, x.pattern(EACH, CHARS, 0, 0));
        x.due(OUTSIDE, x.pattern(PLACE, 14, 0, 0));
        x.due(UNKNOWN, x.pattern(SURE, 15, 0, 0));
        x.due(UNKNOWN, x.pattern(EACH, SHEET, 0, 0));
        x.due(UNKNOWN, x.pattern(PLACE, SHEET, 0, 0));
        while (x.count(PATTERNS) < 40) {
            x.anyThing();
        }
        x.due(OUTSIDE, x.pattern(SURE, 16, 40, 0));
        x.due(UNKNOWN, x.pattern(SURE, 15, 40, 0));
        x.due(UNKNOWN, x.pattern(HALVES, 0, 40, 0));
        x.due(UNKNOWN, x.pattern(HALVES, 40, 0, 0));
        x.due(FULL, x.pattern(SURE, 15, 39, 0));
        x.due(40, x.count(PATTERNS));
    }

    @Says(promise = 10, words = "(Numbers that its SORT does not have count for nothing;")
    static void numbersThatASortDoesNotHaveCountForNothing() {
        Run x = Run.withAllForms();
        int any = x.anyThing();
        x.due(1, x.match(x.pattern(IS, ANY, LOWEST, HIGHEST), MARK));
        x.due(1, x.match(x.pattern(SURE, ANY, any, 99), MARK));
        x.due(0, x.match(x.pattern(IS_NOTHING, 99, -99, 99), MARK));
        x.due(0, x.match(x.pattern(HALVES, any, any, 99), PAIR));
        x.due(0, x.match(x.pattern(EACH, SHEET, any, -1), SHEET));
        x.due(1, x.match(x.pattern(BOTH, any, any, 99), MARK));
        x.due(1, x.match(x.pattern(EITHER, any, any, -1), MARK));
        x.due(0, x.match(x.pattern(NOT, any, 99, -1), MARK));
        x.due(1, x.match(x.pattern(KEEP, 3, 99, -1), MARK));
        x.due(1, x.match(x.pattern(SAME, 3, 99, -1), MARK));
        x.due(1, x.match(x.pattern(TELLS, 13, 99, -1), NOTE));
        x.due(1, x.match(x.pattern(LONG, INTS, 2, 99), INTS));
    }

    @Says(promise = 10, words = "places, numbers that are compared may be any.)")
    static void placesAndComparedNumbersMayBeAny() {
        Run x = new Run();
        int made = x.anyThing();
        for (int far : new int[] {LOWEST, -1, 40, HIGHEST}) {
            x.due(++made, x.pattern(PLACE, SHEET, far, 0));
            x.due(++made, x.pattern(DIGIT, INTS, far, 0));
            x.due(++made, x.pattern(DIGIT, INTS, 0, far));
            x.due(++made, x.pattern(TELLS, far, 0, 0));
            x.due(++made, x.pattern(LONG, INTS, far, 0));
        }
    }

    @Says(promise = 11, words = "A MATCH of a PATTERN with a THING (NONE: NOTHING): 1, 0, a FINDING.")
    static void matchAnswersFitNoFitOrAFinding() {
        Run x = Run.withAllForms();
        int tells = x.pattern(TELLS, 13, 0, 0);
        x.due(1, x.match(tells, NOTE));
        x.due(0, x.match(tells, SEAL));
        x.due(CAST, x.match(tells, MARK));
        x.due(NOTHING, x.match(tells, NONE));
        x.due(BEYOND, x.match(x.pattern(DIGIT, INTS, 2, 0), INTS));
        x.due(SPENT, x.match(x.fittingIn(301), INTS));
        x.findings(1, 1, 1, 0, 0, 1);
    }

    @Says(promise = 11, words = "A MATCH of a PATTERN with a THING (NONE: NOTHING): 1, 0, a FINDING.")
    static void aMatchTellsNothingOfRules() {
        Run x = Run.withAllForms();
        int tells = x.pattern(TELLS, 13, 0, 0);
        x.rule(tells, NO_ACT, 0, 0);
        x.match(tells, NOTE);
        x.match(tells, MARK);
        x.due(0, x.told(0, USED));
        x.due(0, x.told(0, FELL));
    }

    @Says(promise = 11, words = "UNKNOWN.")
    static void matchAsksForThePatternAndTheThing() {
        Run x = Run.withAllForms();
        int keep = x.pattern(KEEP, 0, 0, 0);
        x.due(1, x.match(x.pattern(NOT, x.pattern(NOT, keep, 0, 0), 0, 0), MARK));
        for (int far : new int[] {LOWEST, -6, -4, -1, 14, 80, HIGHEST}) {
            x.due(UNKNOWN, x.match(keep, far));
            x.due(UNKNOWN, x.match(far, SEAL));
            x.due(UNKNOWN, x.match(far, NONE));
        }
        x.due(UNKNOWN, x.match(3, SEAL));
        x.due(UNKNOWN, x.match(NONE, SEAL));
        x.due(3, x.count(STEPS));
        x.slots(MARK, NONE, NONE, NONE);
    }

    @Says(promise = 12, words = "What a SLOT (0 .. 3) holds: a THING; NONE.")
    static void slotAnswersForAllFour() {
        Run x = Run.withAllForms();
        for (int s = 0; s < 4; s++) {
            x.due(NONE, x.slot(s));
            x.hold(s, SEALS_SHELF - s);
            x.due(SEALS_SHELF - s, x.slot(s));
        }
        x.slots(13, 12, 11, 10);
        x.hold(0, NONE);
        x.slots(NONE, 12, 11, 10);
    }

    @Says(promise = 12, words = "OUTSIDE.")
    static void otherSlotsAreOutside() {
        Run x = new Run();
        for (int s : new int[] {LOWEST, NONE, -1, 4, HIGHEST}) {
            x.due(OUTSIDE, x.slot(s));
        }
    }

    @Says(promise = 13, words = "A RULE: its number.")
    static void rulesOfAllActsAreNumbered() {
        Run x = new Run();
        int any = x.anyThing();
        for (int act = NO_ACT; act <= GROW; act++) {
            x.due(act, x.rule(any, act, SHEET, 0));
        }
        x.due(6, x.count(RULES));
    }

    static final String RULE_REFUSED = "UNKNOWN: the PATTERN; OUTSIDE: ACT (0 .. 5), KIND (of LAY; else it is not looked at); FULL.";

    @Says(promise = 13, words = RULE_REFUSED)
    static void ruleAsksForThePattern() {
        Run x = new Run();
        x.due(UNKNOWN, x.rule(0, NO_ACT, 0, 0));
        x.anyThing();
        for (int p : new int[] {LOWEST, NONE, -1, 1, 40, HIGHEST}) {
            x.due(UNKNOWN, x.rule(p, NO_ACT, 0, 0));
            x.due(UNKNOWN, x.rule(p, 6, 0, 0));
            x.due(UNKNOWN, x.rule(p, LAY, 6, 0));
        }
        x.due(0, x.count(RULES));
    }

    @Says(promise = 13, words = RULE_REFUSED)
    static void ruleAsksForTheAct() {
        Run x = new Run();
        int any = x.anyThing();
        for (int act : new int[] {LOWEST, -1, 6, HIGHEST}) {
            x.due(OUTSIDE, x.rule(any, act, SHEET, 0));
        }
        x.due(0, x.count(RULES));
    }

    @Says(promise = 13, words = RULE_REFUSED)
    static void ruleAsksForTheKindOfLay() {
        Run x = new Run();
        int any = x.anyThing();
        for (int kind : new int[] {LOWEST, -1, 0, 6, 14, 15, HIGHEST}) {
            x.due(OUTSIDE, x.rule(any, LAY, kind, 0));
        }
        for (int kind = SHEET; kind <= SEALS_SHELF; kind++) {
            x.due(kind - SHEET, x.rule(any, LAY, kind, 0));
        }
    }

    @Says(promise = 13, words = RULE_REFUSED)
    static void theKindOfOtherActsIsNotLookedAt() {
        for (int act : new int[] {NO_ACT, LEFT, RIGHT, TURN, GROW}) {
            Run x = new Run();
            int any = x.anyThing();
            x.due(0, x.rule(any, act, LOWEST, 0));
            x.due(1, x.rule(any, act, -1, 0));
            x.due(2, x.rule(any, act, 6, 0));
            x.due(3, x.rule(any, act, 14, 0));
            x.due(4, x.rule(any, act, HIGHEST, 0));
        }
    }

    @Says(promise = 13, words = RULE_REFUSED)
    static void aPlaceMayBeAny() {
        for (int act = NO_ACT; act <= GROW; act++) {
            Run x = new Run();
            int any = x.anyThing();
            x.due(0, x.rule(any, act, SHEET, LOWEST));
            x.due(1, x.rule(any, act, SHEET, -1));
            x.due(2, x.rule(any, act, SHEET, HIGHEST));
        }
    }

    @Says(promise = 13, words = RULE_REFUSED)
    static void aRuleIsUnknownThenOutsideThenFull() {
        Run x = new Run();
        int any = x.anyThing();
        for (int r = 0; r < 16; r++) {
            x.due(r, x.rule(any, NO_ACT, 0, 0));
        }
        x.due(UNKNOWN, x.rule(1, 6, 0, 0));
        x.due(OUTSIDE, x.rule(any, 6, 0, 0));
        x.due(OUTSIDE, x.rule(any, LAY, 14, 0));
        x.due(FULL, x.rule(any, LAY, 13, 0));
        x.due(FULL, x.rule(any, NO_ACT, 0, 0));
        x.due(16, x.count(RULES));
    }

    @Says(promise = 14, words = "The RULES are APPLIED to a THING: the RULE that was USED; NONE; a FINDING of its ACT.")
    static void applyAnswersTheRuleNoneOrAFinding() {
        Run x = Run.withAllForms();
        x.rule(x.pattern(IS, NOTE, 0, 0), NO_ACT, 0, 0);
        x.rule(x.pattern(BOTH, x.pattern(IS, MARK, 0, 0), x.pattern(KEEP, 0, 0, 0), 0), GROW, 0, 0);
        x.due(0, x.apply(NOTE));
        x.due(CAST, x.apply(SEAL));
        x.due(NONE, x.apply(PAIR));
    }

    @Says(promise = 14, words = "The RULES are APPLIED to a THING: the RULE that was USED; NONE; a FINDING of its ACT.")
    static void applyAnswersTheRuleAfterEachAct() {
        int[] first = {NONE, MARKS, PAIR, PAIR, NONE, INTS};
        for (int act = NO_ACT; act <= GROW; act++) {
            Run x = Run.withAllForms();
            x.hold(0, first[act]);
            x.hold(1, SEAL);
            int nothing = x.pattern(IS_NOTHING, 0, 0, 0);
            for (int r = 0; r < 15; r++) {
                x.rule(nothing, act, MARKS, 0);
            }
            x.rule(x.anyThing(), act, MARKS, 0);
            x.due(15, x.apply(MARK));
        }
    }

    @Says(promise = 14, words = "UNKNOWN.")
    static void applyAsksForTheThing() {
        Run x = Run.withAllForms();
        x.rule(x.pattern(KEEP, 0, 0, 0), NO_ACT, 0, 0);
        for (int t : new int[] {LOWEST, -6, NONE, -4, -1, 14, 80, HIGHEST}) {
            x.due(UNKNOWN, x.apply(t));
        }
        x.due(0, x.told(0, USED));
        x.due(0, x.count(STEPS));
    }

    @Says(promise = 15, words = "Of a RULE: 0 how often it was USED (with a FINDING of its ACT, too), 1 how often it FELL.")
    static void toldCountsUsesAndFalls() {
        Run x = Run.withAllForms();
        x.rule(x.pattern(DIGIT, INTS, 0, 0), GROW, 0, 0);
        x.due(NONE, x.apply(LONGS));
        x.due(NONE, x.apply(CHARS));
        x.due(NOTHING, x.apply(INTS));
        x.due(1, x.told(0, USED));
        x.due(2, x.told(0, FELL));
        x.hold(0, INTS);
        x.due(0, x.apply(INTS));
        x.due(2, x.told(0, USED));
        x.due(NONE, x.apply(INTS));
        x.due(2, x.told(0, USED));
        x.due(2, x.told(0, FELL));
    }

    @Says(promise = 15, words = "Of a RULE: 0 how often it was USED (with a FINDING of its ACT, too), 1 how often it FELL.")
    static void aNewRuleWasNeitherUsedNorFell() {
        Run x = new Run();
        int any = x.anyThing();
        for (int r = 0; r < 16; r++) {
            x.rule(any, NO_ACT, 0, 0);
            x.due(0, x.told(r, USED));
            x.due(0, x.told(r, FELL));
        }
    }

    @Says(promise = 15, words = "UNKNOWN; OUTSIDE.")
    static void toldAsksForTheRuleThenForWhat() {
        Run x = new Run();
        x.due(UNKNOWN, x.told(0, USED));
        x.rule(x.anyThing(), NO_ACT, 0, 0);
        for (int r : new int[] {LOWEST, NONE, -1, 1, 16, HIGHEST}) {
            x.due(UNKNOWN, x.told(r, USED));
            x.due(UNKNOWN, x.told(r, 2));
        }
        for (int what : new int[] {LOWEST, -1, 2, HIGHEST}) {
            x.due(OUTSIDE, x.told(0, what));
        }
    }

    @Says(promise = 16, words = "0 THINGS, 1 PATTERNS, 2 RULES,")
    static void countCountsThingsPatternsAndRules() {
        Run x = Run.withAllForms();
        int any = x.anyThing();
        x.anyThing();
        x.rule(any, NO_ACT, 0, 0);
        x.due(14, x.count(THINGS));
        x.due(2, x.count(PATTERNS));
        x.due(1, x.count(RULES));
    }

    static final String STEP_WORDS = "3 STEPS of the latest MATCH (also one of apply(); at most 300; 0 ahead of one),";

    @Says(promise = 16, words = STEP_WORDS)
    static void stepsAreZeroAheadOfAMatch() {
        Run x = Run.withAllForms();
        x.anyThing();
        x.due(UNKNOWN, x.match(1, MARK));
        x.due(UNKNOWN, x.apply(14));
        x.due(NONE, x.apply(MARK));
        x.due(0, x.count(STEPS));
    }

    @Says(promise = 16, words = STEP_WORDS)
    static void stepsAreThoseOfTheLatestMatch() {
        Run x = Run.withAllForms();
        int any = x.anyThing();
        int both = x.pattern(BOTH, any, any, 0);
        x.match(both, MARK);
        x.due(3, x.count(STEPS));
        x.match(both, NONE);
        x.due(2, x.count(STEPS));
        x.match(any, MARK);
        x.due(1, x.count(STEPS));
        x.due(UNKNOWN, x.match(2, MARK));
        x.due(1, x.count(STEPS));
        // Without rules there is no match, so that the latest one stays the latest.
        x.due(NONE, x.apply(MARK));
        x.due(1, x.count(STEPS));
    }

    @Says(promise = 16, words = STEP_WORDS)
    static void stepsAreThoseOfTheLatestMatchOfApply() {
        Run x = Run.withAllForms();
        int any = x.anyThing();
        int mark = x.pattern(IS, MARK, 0, 0);
        x.rule(x.pattern(BOTH, mark, mark, 0), NO_ACT, 0, 0);
        x.rule(any, NO_ACT, 0, 0);
        x.due(0, x.apply(MARK));
        x.due(3, x.count(STEPS));
        x.due(1, x.apply(NOTE));
        x.due(1, x.count(STEPS));
    }

    @Says(promise = 16, words = STEP_WORDS)
    static void stepsAreThreeHundredAtMost() {
        Run x = Run.withAllForms();
        int spent = x.fittingIn(511);
        x.due(SPENT, x.match(spent, MARK));
        x.due(300, x.count(STEPS));
        x.rule(spent, NO_ACT, 0, 0);
        x.match(0, MARK);
        x.due(NONE, x.apply(MARK));
        x.due(300, x.count(STEPS));
    }

    static final String FINDING_WORDS = "4 .. 9 FINDINGS 1 .. 6 in all (those of RULES that FELL, too; number() counts none).";

    @Says(promise = 16, words = FINDING_WORDS)
    static void countCountsEachFindingOfEachCall() {
        Run x = Run.withAllForms();
        x.due(CAST, x.lay(MARK, SHEET, 0, INTS));
        x.due(CAST, x.half(MARK, 0, MARK));
        x.due(CAST, x.put(MARK, INTS, 0, 0));
        x.due(CAST, x.at(MARK, SHEET, 0));
        x.due(CAST, x.at(MARK, PAIR, 0));
        x.due(BEYOND, x.lay(SHEET, SHEET, 2, INTS));
        x.due(BEYOND, x.put(INTS, INTS, 2, 0));
        x.due(BEYOND, x.at(SHEET, SHEET, 2));
        x.due(STORE, x.lay(SEALS, MARKS, 0, MARK));
        x.due(SIZE, x.row(INTS, -1));
        x.findings(5, 0, 3, 1, 1, 0);
        x.due(NOTHING, x.match(x.pattern(TELLS, 0, 0, 0), NONE));
        x.due(SPENT, x.match(x.fittingIn(301), MARK));
        x.findings(5, 1, 3, 1, 1, 1);
    }

    @Says(promise = 16, words = FINDING_WORDS)
    static void countCountsFindingsOfRulesThatFell() {
        Run x = Run.withAllForms();
        int any = x.anyThing();
        x.rule(x.pattern(DIGIT, INTS, 2, 0), NO_ACT, 0, 0);
        x.rule(x.pattern(TELLS, 0, 0, 0), NO_ACT, 0, 0);
        x.rule(x.fittingIn(301), NO_ACT, 0, 0);
        x.rule(any, GROW, 0, 0);
        x.due(NOTHING, x.apply(INTS));
        x.findings(1, 1, 1, 0, 0, 1);
    }

    @Says(promise = 16, words = FINDING_WORDS)
    static void countCountsNoneOfNumber() {
        Run x = Run.withAllForms();
        x.due(CAST, x.thrown(MARK, INTS, 0));
        x.due(BEYOND, x.thrown(INTS, INTS, 2));
        x.due(0, x.number(14, INTS, 0));
        x.noFindings();
    }

    @Says(promise = 16, words = "OUTSIDE.")
    static void otherCountsAreOutside() {
        Run x = Run.withAllForms();
        for (int what : new int[] {LOWEST, -1, 10, HIGHEST}) {
            x.due(OUTSIDE, x.count(what));
        }
        x.due(0, x.count(9));
    }

    @Says(promise = 17, words = "All is as at the beginning: how many THINGS there were.")
    static void clearAnswersHowManyThingsThereWere() {
        Run x = new Run();
        x.due(0, x.clear());
        x.thing(MARK, 0);
        x.due(1, x.clear());
        for (int t = 0; t < 80; t++) {
            x.thing(MARK, 0);
        }
        x.due(80, x.clear());
        x.due(0, x.clear());
    }

    @Says(promise = 17, words = "All is as at the beginning: how many THINGS there were.")
    static void clearLeavesNothingThere() {
        Run x = TermsTest.busy();
        x.due(SIZE, x.row(INTS, -1));
        x.due(STORE, x.lay(SEALS, MARKS, 0, MARK));
        x.due(SPENT, x.match(x.fittingIn(301), MARK));
        x.due(14, x.clear());
        isEmpty(x);
    }

    @Says(promise = 17, words = "All is as at the beginning: how many THINGS there were.")
    static void clearedThingsAreMadeAnew() {
        Run x = new Run();
        fillSixThings(x);
        x.due(6, x.clear());
        // What was a row of numbers is one again, and each number changes its form once.
        x.row(INTS, 6);
        x.row(INTS, 6);
        x.row(SHEET, 6);
        x.row(SHEET, 6);
        x.thing(PAIR, 0);
        x.thing(PAIR, 0);
        for (int i = 0; i < 6; i++) {
            x.due(0, x.number(0, INTS, i));
            x.due(0, x.number(1, INTS, i));
            x.due(NONE, x.at(2, SHEET, i));
            x.due(NONE, x.at(3, SHEET, i));
        }
        for (int side = 0; side < 2; side++) {
            x.due(NONE, x.at(4, PAIR, side));
            x.due(NONE, x.at(5, PAIR, side));
        }
    }

    /** Two rows of numbers, two sheets and two pairs that stand mixed and hold something everywhere. */
    static void fillSixThings(Run x) {
        x.row(INTS, 6);
        x.row(SHEET, 6);
        x.row(INTS, 6);
        x.row(SHEET, 6);
        x.thing(PAIR, 0);
        x.thing(PAIR, 0);
        for (int i = 0; i < 6; i++) {
            x.put(0, INTS, i, 9);
            x.lay(1, SHEET, i, 0);
            x.put(2, INTS, i, 9);
            x.lay(3, SHEET, i, 2);
        }
        for (int side = 0; side < 2; side++) {
            x.half(4, side, 1);
            x.half(5, side, 4);
        }
    }

    @Says(promise = 17, words = "All is as at the beginning: how many THINGS there were.")
    static void clearedRulesAndPatternsAreMadeAnew() {
        Run x = Run.withAllForms();
        int tells = x.pattern(TELLS, 13, 0, 0);
        x.rule(tells, NO_ACT, 0, 0);
        x.due(0, x.apply(NOTE));
        x.due(NONE, x.apply(MARK));
        x.clear();
        x.due(0, x.thing(MARK, 0));
        x.due(NONE, x.apply(0));
        x.due(UNKNOWN, x.pattern(NOT, 0, 0, 0));
        x.due(0, x.pattern(KEEP, 0, 0, 0));
        x.due(0, x.rule(0, NO_ACT, 0, 0));
        x.due(0, x.told(0, USED));
        x.due(0, x.told(0, FELL));
        x.due(0, x.apply(0));
        x.due(1, x.told(0, USED));
    }

    @Says(promise = 17, words = "All is as at the beginning: how many THINGS there were.")
    static void clearMakesRoomForAllAgain() {
        Run x = new Run();
        for (int round = 0; round < 2; round++) {
            for (int t = 0; t < 80; t++) {
                x.due(t, x.thing(MARK, 0));
            }
            for (int p = 0; p < 40; p++) {
                x.due(p, x.anyThing());
            }
            for (int r = 0; r < 16; r++) {
                x.due(r, x.rule(0, NO_ACT, 0, 0));
            }
            x.due(FULL, x.thing(MARK, 0));
            x.due(FULL, x.anyThing());
            x.due(FULL, x.rule(0, NO_ACT, 0, 0));
            x.due(80, x.clear());
        }
    }

    public static void main(String[] args) throws Exception {
        Sentences.run(PromiseTest.class);
    }
}
