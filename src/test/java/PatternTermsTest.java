/** The document's words on patterns: each sort and its edges, slots, steps, and what a match leaves. */
public final class PatternTermsTest implements Words {

    @Says(words = "PATTERNS 0, 1, .. (40 at most) have a SORT and numbers a, b, c; those that they name are earlier ones.")
    static void patternsAreNumberedFromZeroToThirtyNine() {
        Run x = new Run();
        for (int p = 0; p < 40; p++) {
            x.due(p, x.pattern(IS_NOTHING, 0, 0, 0));
        }
        x.due(FULL, x.pattern(IS_NOTHING, 0, 0, 0));
        x.due(40, x.count(PATTERNS));
        x.due(1, x.match(39, NONE));
        x.due(UNKNOWN, x.match(40, NONE));
    }

    @Says(words = "PATTERNS 0, 1, .. (40 at most) have a SORT and numbers a, b, c; those that they name are earlier ones.")
    static void aPatternNamesNeitherItselfNorLaterOnes() {
        Run x = new Run();
        x.anyThing();
        x.anyThing();
        for (int p : new int[] {2, 3, 39, 40, HIGHEST, -1, NONE, LOWEST}) {
            x.due(UNKNOWN, x.pattern(SURE, ANY, p, 0));
            x.due(UNKNOWN, x.pattern(HALVES, p, 1, 0));
            x.due(UNKNOWN, x.pattern(HALVES, 1, p, 0));
            x.due(UNKNOWN, x.pattern(EACH, SHEET, p, 0));
            x.due(UNKNOWN, x.pattern(PLACE, SHEET, 0, p));
            x.due(UNKNOWN, x.pattern(BOTH, p, 1, 0));
            x.due(UNKNOWN, x.pattern(BOTH, 1, p, 0));
            x.due(UNKNOWN, x.pattern(EITHER, p, 1, 0));
            x.due(UNKNOWN, x.pattern(EITHER, 1, p, 0));
            x.due(UNKNOWN, x.pattern(NOT, p, 0, 0));
        }
        x.due(2, x.pattern(BOTH, 0, 1, 0));
    }

    @Says(words = "PATTERNS 0, 1, .. (40 at most) have a SORT and numbers a, b, c; those that they name are earlier ones.")
    static void fortyPatternsMayStandInOneAnother() {
        Run x = new Run();
        x.thing(MARK, 0);
        x.pattern(KEEP, 0, 0, 0);
        for (int p = 1; p < 40; p++) {
            x.due(p, x.pattern(NOT, p - 1, 0, 0));
        }
        x.due(0, x.match(39, 0));
        x.due(40, x.count(STEPS));
        x.due(1, x.match(38, 0));
        x.due(39, x.count(STEPS));
    }

    @Says(words = "A PATTERN looks at a THING or NOTHING, and it FITS or not:")
    static void eachSortLooksAtNothing() {
        Run x = new Run();
        int nothing = x.pattern(IS_NOTHING, 0, 0, 0);
        x.due(1, x.match(nothing, NONE));
        x.due(0, x.match(x.pattern(IS, ANY, 0, 0), NONE));
        x.due(1, x.match(x.pattern(SURE, MARK, nothing, 0), NONE));
        x.due(0, x.match(x.pattern(HALVES, nothing, nothing, 0), NONE));
        x.due(0, x.match(x.pattern(EACH, SHEET, nothing, 0), NONE));
        x.due(NOTHING, x.match(x.pattern(PLACE, SHEET, 0, nothing), NONE));
        x.due(NOTHING, x.match(x.pattern(DIGIT, INTS, 0, 0), NONE));
        x.due(1, x.match(x.pattern(BOTH, nothing, nothing, 0), NONE));
        x.due(1, x.match(x.pattern(EITHER, nothing, nothing, 0), NONE));
        x.due(0, x.match(x.pattern(NOT, nothing, 0, 0), NONE));
        x.due(1, x.match(x.pattern(KEEP, 0, 0, 0), NONE));
        x.due(1, x.match(x.pattern(SAME, 0, 0, 0), NONE));
        x.due(NOTHING, x.match(x.pattern(TELLS, 0, 0, 0), NONE));
        x.due(NOTHING, x.match(x.pattern(LONG, INTS, 0, 0), NONE));
    }

    @Says(words = "0 IS: it IS of KIND a.")
    static void isFitsEachKindThatAThingIs() {
        Run x = Run.withAllForms();
        for (int kind = 0; kind <= ANY; kind++) {
            int is = x.pattern(IS, kind, 0, 0);
            for (int t = 0; t < Run.FORMS; t++) {
                x.due(x.is(t, kind), x.match(is, t));
            }
        }
        x.noFindings();
    }

    @Says(words = "1 SURE: TAKEN for KIND a; then PATTERN b looks at it.")
    static void sureIsACastWhereIsDoesNotFit() {
        Run x = Run.withAllForms();
        int any = x.anyThing();
        int casts = 0;
        for (int kind = 0; kind <= ANY; kind++) {
            int sure = x.pattern(SURE, kind, any, 0);
            for (int t = 0; t < Run.FORMS; t++) {
                boolean is = x.is(t, kind) == 1;
                casts += is ? 0 : 1;
                x.due(is ? 1 : CAST, x.match(sure, t));
            }
        }
        x.findings(casts, 0, 0, 0, 0, 0);
    }

    @Says(words = "1 SURE: TAKEN for KIND a; then PATTERN b looks at it.")
    static void sureLooksWithItsPatternOnlyIfTaken() {
        Run x = Run.withAllForms();
        int sure = x.pattern(SURE, TOLD, x.pattern(IS, NOTE, 0, 0), 0);
        x.due(1, x.match(sure, NOTE));
        x.due(2, x.count(STEPS));
        x.due(0, x.match(sure, SEAL));
        x.due(2, x.count(STEPS));
        x.due(CAST, x.match(sure, MARK));
        x.due(1, x.count(STEPS));
        x.due(0, x.match(sure, NONE));
        x.due(2, x.count(STEPS));
    }

    @Says(words = "2 NONE: it is NOTHING.")
    static void noneFitsNothingAlone() {
        Run x = Run.withAllForms();
        int nothing = x.pattern(IS_NOTHING, 0, 0, 0);
        x.due(1, x.match(nothing, NONE));
        for (int t = 0; t < Run.FORMS; t++) {
            x.due(0, x.match(nothing, t));
        }
    }

    @Says(words = "3 HALVES: it IS a PAIR; then PATTERN a looks at its LEFT, then, if that FITS, b at its RIGHT.")
    static void halvesOfWhatIsNoPairDoNotFit() {
        Run x = Run.withAllForms();
        int keep = x.pattern(KEEP, 0, 0, 0);
        int halves = x.pattern(HALVES, keep, keep, 0);
        for (int t = 0; t < Run.FORMS; t++) {
            x.due(t == PAIR ? 1 : 0, x.match(halves, t));
            x.due(t == PAIR ? 3 : 1, x.count(STEPS));
        }
        x.due(0, x.match(halves, NONE));
        x.due(1, x.count(STEPS));
        x.noFindings();
    }

    @Says(words = "3 HALVES: it IS a PAIR; then PATTERN a looks at its LEFT, then, if that FITS, b at its RIGHT.")
    static void halvesLookLeftThenRight() {
        Run x = Run.withAllForms();
        int halves = x.pattern(HALVES, x.pattern(IS, MARK, 0, 0), x.pattern(IS, NOTE, 0, 0), 0);
        x.half(PAIR, 0, MARK);
        x.half(PAIR, 1, NOTE);
        x.due(1, x.match(halves, PAIR));
        x.half(PAIR, 1, MARK);
        x.due(0, x.match(halves, PAIR));
        x.due(3, x.count(STEPS));
        x.half(PAIR, 0, NOTE);
        x.half(PAIR, 1, NOTE);
        x.due(0, x.match(halves, PAIR));
        x.due(2, x.count(STEPS));
    }

    @Says(words = "3 HALVES: it IS a PAIR; then PATTERN a looks at its LEFT, then, if that FITS, b at its RIGHT.")
    static void emptyHalvesAreLookedAtAsNothing() {
        Run x = new Run();
        x.thing(PAIR, 0);
        int nothing = x.pattern(IS_NOTHING, 0, 0, 0);
        int tells = x.pattern(TELLS, 0, 0, 0);
        x.due(1, x.match(x.pattern(HALVES, nothing, nothing, 0), 0));
        x.due(NOTHING, x.match(x.pattern(HALVES, tells, nothing, 0), 0));
        x.due(NOTHING, x.match(x.pattern(HALVES, nothing, tells, 0), 0));
        x.due(0, x.match(x.pattern(HALVES, x.anyThing(), tells, 0), 0));
    }

    @Says(words = "4 EACH: it IS of KIND a (7 .. 13), and PATTERN b looks at what each of its places holds, in order,"
            + " as long as that FITS.")
    static void eachOfAnotherKindDoesNotFitAndIsNoCast() {
        Run x = Run.withAllForms();
        int nothing = x.pattern(IS_NOTHING, 0, 0, 0);
        for (int kind = SHEET; kind <= SEALS_SHELF; kind++) {
            int each = x.pattern(EACH, kind, nothing, 0);
            for (int t = 0; t < Run.FORMS; t++) {
                x.due(x.is(t, kind), x.match(each, t));
            }
            x.due(0, x.match(each, NONE));
            x.due(1, x.count(STEPS));
        }
        x.noFindings();
    }

    @Says(words = "4 EACH: it IS of KIND a (7 .. 13), and PATTERN b looks at what each of its places holds, in order,"
            + " as long as that FITS.")
    static void eachOfNoPlaceFitsWithoutAnotherLook() {
        Run x = new Run();
        x.row(MARKS, 0);
        x.due(1, x.match(x.pattern(EACH, MARKS, x.anyThing(), 0), 0));
        x.due(1, x.count(STEPS));
    }

    @Says(words = "4 EACH: it IS of KIND a (7 .. 13), and PATTERN b looks at what each of its places holds, in order,"
            + " as long as that FITS.")
    static void eachLooksAtAllSixPlacesAndStopsAtTheFirstThatDoesNotFit() {
        for (int gap = 0; gap <= 6; gap++) {
            Run x = new Run();
            x.row(MARKS, 6);
            x.thing(SEAL, 0);
            int each = x.pattern(EACH, MARKS, x.anyThing(), 0);
            for (int i = 0; i < 6; i++) {
                x.lay(0, MARKS, i, i == gap ? NONE : 1);
            }
            x.due(gap == 6 ? 1 : 0, x.match(each, 0));
            x.due(gap == 6 ? 7 : 2 + gap, x.count(STEPS));
        }
    }

    @Says(words = "4 EACH: it IS of KIND a (7 .. 13), and PATTERN b looks at what each of its places holds, in order,"
            + " as long as that FITS.")
    static void eachLooksInOrder() {
        Run x = new Run();
        x.row(TOLDS, 3);
        for (int i = 0; i < 3; i++) {
            x.lay(0, TOLDS, i, x.thing(NOTE, i));
        }
        x.due(1, x.match(x.pattern(EACH, TOLDS, x.pattern(KEEP, 0, 0, 0), 0), 0));
        x.slots(3, NONE, NONE, NONE);
        // The first place falls and the last does not fit: which it is tells where it began.
        x.lay(0, TOLDS, 0, NONE);
        x.due(NOTHING, x.match(x.pattern(EACH, TOLDS, x.pattern(TELLS, 1, 0, 0), 0), 0));
        x.due(0, x.match(x.pattern(EACH, TOLDS, x.anyThing(), 0), 0));
        x.due(2, x.count(STEPS));
    }

    @Says(words = "5 PLACE: TAKEN for KIND a (7 .. 13); PATTERN c looks at what its place b holds (NOTHING; BEYOND).")
    static void placeIsTakenForItsKind() {
        Run x = Run.withAllForms();
        int nothing = x.pattern(IS_NOTHING, 0, 0, 0);
        int casts = 0;
        for (int kind = SHEET; kind <= SEALS_SHELF; kind++) {
            int place = x.pattern(PLACE, kind, 1, nothing);
            for (int t = 0; t < Run.FORMS; t++) {
                boolean is = x.is(t, kind) == 1;
                casts += is ? 0 : 1;
                x.due(is ? 1 : CAST, x.match(place, t));
            }
            x.due(NOTHING, x.match(place, NONE));
        }
        x.findings(casts, 7, 0, 0, 0, 0);
    }

    @Says(words = "5 PLACE: TAKEN for KIND a (7 .. 13); PATTERN c looks at what its place b holds (NOTHING; BEYOND).")
    static void placeIsBeyondWhereNoPlaceIs() {
        for (int n : new int[] {0, 1, 6}) {
            Run x = new Run();
            x.row(MARKS, n);
            int nothing = x.pattern(IS_NOTHING, 0, 0, 0);
            for (int i : new int[] {LOWEST, -1, 0, 1, 5, 6, 7, HIGHEST}) {
                boolean there = i >= 0 && i < n;
                x.due(there ? 1 : BEYOND, x.match(x.pattern(PLACE, MARKS, i, nothing), 0));
                x.due(there ? 2 : 1, x.count(STEPS));
            }
        }
    }

    @Says(words = "5 PLACE: TAKEN for KIND a (7 .. 13); PATTERN c looks at what its place b holds (NOTHING; BEYOND).")
    static void placeLooksAtThatPlaceAlone() {
        Run x = Run.withAllForms();
        x.lay(SEALS, SEALS, 1, SEAL);
        int seal = x.pattern(IS, SEAL, 0, 0);
        x.due(0, x.match(x.pattern(PLACE, MARKS, 0, seal), SEALS));
        x.due(1, x.match(x.pattern(PLACE, MARKS, 1, seal), SEALS));
        x.due(2, x.count(STEPS));
    }

    @Says(words = "5 PLACE: TAKEN for KIND a (7 .. 13); PATTERN c looks at what its place b holds (NOTHING; BEYOND).")
    static void placeFindsCastAndNothingAheadOfBeyond() {
        Run x = Run.withAllForms();
        int beyond = x.pattern(PLACE, SHEET, 2, x.anyThing());
        x.due(CAST, x.match(beyond, MARK));
        x.due(NOTHING, x.match(beyond, NONE));
        x.due(BEYOND, x.match(beyond, SHEET));
        x.findings(1, 1, 1, 0, 0, 0);
    }

    @Says(words = "6 DIGIT: TAKEN for KIND a (4 .. 6): the number at its place b is c (NOTHING; BEYOND).")
    static void digitIsTakenForItsKind() {
        Run x = Run.withAllForms();
        int casts = 0;
        for (int kind = INTS; kind <= CHARS; kind++) {
            int digit = x.pattern(DIGIT, kind, 1, 0);
            for (int t = 0; t < Run.FORMS; t++) {
                casts += t == kind ? 0 : 1;
                x.due(t == kind ? 1 : CAST, x.match(digit, t));
            }
            x.due(NOTHING, x.match(digit, NONE));
            x.due(1, x.count(STEPS));
        }
        x.findings(casts, 3, 0, 0, 0, 0);
    }

    @Says(words = "6 DIGIT: TAKEN for KIND a (4 .. 6): the number at its place b is c (NOTHING; BEYOND).")
    static void digitIsBeyondWhereNoPlaceIs() {
        for (int n : new int[] {0, 1, 6}) {
            Run x = new Run();
            x.row(CHARS, n);
            for (int i : new int[] {LOWEST, -1, 0, 1, 5, 6, 7, HIGHEST}) {
                x.due(i >= 0 && i < n ? 1 : BEYOND, x.match(x.pattern(DIGIT, CHARS, i, 0), 0));
            }
        }
    }

    @Says(words = "6 DIGIT: TAKEN for KIND a (4 .. 6): the number at its place b is c (NOTHING; BEYOND).")
    static void digitComparesTheWholeNumber() {
        Run x = Run.withAllForms();
        int[] digits = {LOWEST, -1, 0, 1, 65535, 65536, HIGHEST};
        for (int digit : digits) {
            x.put(INTS, INTS, 1, digit);
            x.put(LONGS, LONGS, 1, digit);
            x.put(CHARS, CHARS, 1, digit);
            x.due(1, x.match(x.pattern(DIGIT, INTS, 1, digit), INTS));
            x.due(1, x.match(x.pattern(DIGIT, LONGS, 1, digit), LONGS));
            x.due(digit >= 0 && digit <= 65535 ? 1 : 0, x.match(x.pattern(DIGIT, CHARS, 1, digit), CHARS));
            x.put(LONGS, LONGS, 1, digit + (1L << 32));
            x.due(0, x.match(x.pattern(DIGIT, LONGS, 1, digit), LONGS));
        }
        x.noFindings();
    }

    @Says(words = "6 DIGIT: TAKEN for KIND a (4 .. 6): the number at its place b is c (NOTHING; BEYOND).")
    static void digitFindsCastAndNothingAheadOfBeyond() {
        Run x = Run.withAllForms();
        int beyond = x.pattern(DIGIT, INTS, 2, 0);
        x.due(CAST, x.match(beyond, LONGS));
        x.due(NOTHING, x.match(beyond, NONE));
        x.due(BEYOND, x.match(beyond, INTS));
        x.findings(1, 1, 1, 0, 0, 0);
    }

    @Says(words = "7 BOTH: PATTERN a looks at it, then, if that FITS, b.")
    static void bothAsksTheSecondOnlyIfTheFirstFits() {
        Run x = Run.withAllForms();
        int tells = x.pattern(TELLS, 23, 0, 0);
        int both = x.pattern(BOTH, x.pattern(IS, MARK, 0, 0), tells, 0);
        x.due(1, x.match(both, SEAL));
        x.due(3, x.count(STEPS));
        x.due(0, x.match(both, NOTE));
        x.due(2, x.count(STEPS));
        x.due(CAST, x.match(both, MARK));
        x.due(3, x.count(STEPS));
        x.due(0, x.match(x.pattern(BOTH, x.anyThing(), x.pattern(IS, SEAL, 0, 0), 0), MARK));
        x.due(3, x.count(STEPS));
    }

    @Says(words = "8 EITHER: a, then, if that does not FIT, b.")
    static void eitherAsksTheSecondOnlyIfTheFirstDoesNotFit() {
        Run x = Run.withAllForms();
        int tells = x.pattern(TELLS, 13, 0, 0);
        int either = x.pattern(EITHER, x.pattern(IS, MARK, 0, 0), tells, 0);
        x.due(1, x.match(either, MARK));
        x.due(2, x.count(STEPS));
        x.due(1, x.match(either, NOTE));
        x.due(3, x.count(STEPS));
        x.due(0, x.match(either, x.thing(NOTE, 12)));
        x.due(3, x.count(STEPS));
        x.due(CAST, x.match(either, PAIR));
    }

    @Says(words = "9 NOT: a looks at it: it does not FIT.")
    static void notTurnsFitRoundButNoFinding() {
        Run x = Run.withAllForms();
        int not = x.pattern(NOT, x.pattern(TELLS, 23, 0, 0), 0, 0);
        x.due(0, x.match(not, SEAL));
        x.due(2, x.count(STEPS));
        x.due(1, x.match(not, NOTE));
        x.due(CAST, x.match(not, MARK));
        x.due(NOTHING, x.match(not, NONE));
        x.findings(1, 1, 0, 0, 0, 0);
    }

    @Says(words = "10 KEEP: SLOT a holds it now; it FITS.")
    static void keepKeepsInItsOwnSlot() {
        for (int slot = 0; slot < 4; slot++) {
            Run x = Run.withAllForms();
            x.due(1, x.match(x.pattern(KEEP, slot, 0, 0), NOTE));
            for (int s = 0; s < 4; s++) {
                x.due(s == slot ? NOTE : NONE, x.slot(s));
            }
        }
    }

    @Says(words = "10 KEEP: SLOT a holds it now; it FITS.")
    static void keepKeepsNothing() {
        Run x = Run.withAllForms();
        int keep = x.pattern(KEEP, 3, 0, 0);
        x.due(1, x.match(keep, MARK));
        x.due(1, x.match(keep, NONE));
        x.slots(NONE, NONE, NONE, NONE);
    }

    @Says(words = "10 KEEP: SLOT a holds it now; it FITS.")
    static void whatIsKeptIsHeldAtOnce() {
        Run x = Run.withAllForms();
        int twins = x.pattern(HALVES, x.pattern(KEEP, 2, 0, 0), x.pattern(SAME, 2, 0, 0), 0);
        x.half(PAIR, 0, SEAL);
        x.half(PAIR, 1, SEAL);
        x.due(1, x.match(twins, PAIR));
        x.half(PAIR, 1, MARK);
        x.due(0, x.match(twins, PAIR));
    }

    @Says(words = "11 SAME: it is what SLOT a holds (NOTHING, too).")
    static void sameFitsWhatEachSlotHolds() {
        Run x = Run.withAllForms();
        for (int slot = 0; slot < 4; slot++) {
            int same = x.pattern(SAME, slot, 0, 0);
            x.due(1, x.match(same, NONE));
            x.due(0, x.match(same, MARK));
            x.hold(slot, slot);
            x.due(0, x.match(same, NONE));
            x.due(1, x.match(same, slot));
            x.due(0, x.match(same, slot + 1));
        }
    }

    @Says(words = "11 SAME: it is what SLOT a holds (NOTHING, too).")
    static void sameIsNotOnlyAlike() {
        Run x = new Run();
        x.thing(NOTE, 5);
        x.thing(NOTE, 5);
        x.hold(0, 0);
        int same = x.pattern(SAME, 0, 0, 0);
        x.due(1, x.match(same, 0));
        x.due(0, x.match(same, 1));
    }

    @Says(words = "12 TELLS: TAKEN for what is TOLD: it tells a (NOTHING).")
    static void tellsIsACastWhereNothingIsTold() {
        Run x = Run.withAllForms();
        int tells = x.pattern(TELLS, 13, 0, 0);
        for (int t = 0; t < Run.FORMS; t++) {
            x.due(t == NOTE ? 1 : t == SEAL ? 0 : CAST, x.match(tells, t));
        }
        x.due(NOTHING, x.match(tells, NONE));
        x.findings(12, 1, 0, 0, 0, 0);
    }

    @Says(words = "12 TELLS: TAKEN for what is TOLD: it tells a (NOTHING).")
    static void tellsComparesWithAnyNumber() {
        Run x = Run.withAllForms();
        for (int a : new int[] {LOWEST, -1000, 1000, HIGHEST}) {
            int tells = x.pattern(TELLS, a, 0, 0);
            x.due(0, x.match(tells, SEAL));
            x.due(0, x.match(tells, NOTE));
        }
        x.noFindings();
    }

    @Says(words = "13 LONG: TAKEN for KIND a (4 .. 13): it has b places (NOTHING).")
    static void longIsTakenForItsKind() {
        Run x = Run.withAllForms();
        int casts = 0;
        for (int kind = INTS; kind <= SEALS_SHELF; kind++) {
            int two = x.pattern(LONG, kind, 2, 0);
            for (int t = 0; t < Run.FORMS; t++) {
                boolean is = x.is(t, kind) == 1;
                casts += is ? 0 : 1;
                x.due(is ? 1 : CAST, x.match(two, t));
            }
            x.due(NOTHING, x.match(two, NONE));
        }
        x.findings(casts, 10, 0, 0, 0, 0);
    }

    @Says(words = "13 LONG: TAKEN for KIND a (4 .. 13): it has b places (NOTHING).")
    static void longFitsTheRightNumberOfPlacesAlone() {
        Run x = new Run();
        for (int n = 0; n <= 6; n++) {
            x.row(LONGS, n);
            x.row(PAIRS, n);
        }
        for (int b : new int[] {LOWEST, -1, 0, 1, 5, 6, 7, HIGHEST}) {
            int ofLongs = x.pattern(LONG, LONGS, b, 0);
            int ofPairs = x.pattern(LONG, PAIRS, b, 0);
            for (int n = 0; n <= 6; n++) {
                x.due(b == n ? 1 : 0, x.match(ofLongs, 2 * n));
                x.due(b == n ? 1 : 0, x.match(ofPairs, 2 * n + 1));
            }
        }
    }

    @Says(words = "SLOTS 0 .. 3 hold a THING or NOTHING (at first).")
    static void allFourSlotsHoldNothingAtFirst() {
        Run x = new Run();
        x.slots(NONE, NONE, NONE, NONE);
        x.due(OUTSIDE, x.slot(-1));
        x.due(OUTSIDE, x.slot(4));
    }

    @Says(words = "SLOTS 0 .. 3 hold a THING or NOTHING (at first).")
    static void allFourSlotsHoldThings() {
        Run x = Run.withAllForms();
        x.hold(0, MARK);
        x.hold(1, SEAL);
        x.hold(2, SEALS_SHELF);
        x.hold(3, PAIR);
        x.slots(MARK, SEAL, SEALS_SHELF, PAIR);
    }

    @Says(words = "Each time that a PATTERN begins to look is a STEP;")
    static void aPatternThatLooksTwiceTakesTwoSteps() {
        Run x = new Run();
        x.thing(MARK, 0);
        int any = x.anyThing();
        x.due(1, x.match(any, 0));
        x.due(1, x.count(STEPS));
        x.due(1, x.match(x.pattern(BOTH, any, any, 0), 0));
        x.due(3, x.count(STEPS));
    }

    @Says(words = "Each time that a PATTERN begins to look is a STEP;")
    static void aLookThatDoesNotFitOrFallsIsAStepToo() {
        Run x = new Run();
        x.thing(MARK, 0);
        x.due(0, x.match(x.pattern(IS_NOTHING, 0, 0, 0), 0));
        x.due(1, x.count(STEPS));
        x.due(1, x.match(x.anyThing(), 0));
        x.due(CAST, x.match(x.pattern(TELLS, 0, 0, 0), 0));
        x.due(1, x.count(STEPS));
    }

    @Says(words = "the 301st one of a MATCH is SPENT, before it looks.")
    static void threeHundredStepsAreNotSpent() {
        for (int steps = 298; steps <= 300; steps++) {
            Run x = new Run();
            x.thing(MARK, 0);
            x.due(1, x.match(x.fittingIn(steps), 0));
            x.due(steps, x.count(STEPS));
            x.due(0, x.count(SPENTS));
        }
    }

    @Says(words = "the 301st one of a MATCH is SPENT, before it looks.")
    static void threeHundredAndOneStepsAreSpent() {
        for (int steps = 301; steps <= 303; steps++) {
            Run x = new Run();
            x.thing(MARK, 0);
            x.due(SPENT, x.match(x.fittingIn(steps), 0));
            x.due(300, x.count(STEPS));
            x.findings(0, 0, 0, 0, 0, 1);
        }
    }

    @Says(words = "the 301st one of a MATCH is SPENT, before it looks.")
    static void theLastStepLooksAndTheOneAfterItDoesNot() {
        Run x = new Run();
        x.thing(MARK, 0);
        // BOTH takes one step and what fits 298 or 299, so that the one that falls is the 300th or the 301st.
        int falls = x.pattern(TELLS, 0, 0, 0);
        int almost = x.fittingIn(298);
        x.due(CAST, x.match(x.pattern(BOTH, almost, falls, 0), 0));
        x.due(300, x.count(STEPS));
        x.findings(1, 0, 0, 0, 0, 0);
        int spent = x.pattern(BOTH, x.pattern(SURE, ANY, almost, 0), falls, 0);
        x.due(SPENT, x.match(spent, 0));
        x.findings(1, 0, 0, 0, 0, 1);
    }

    @Says(words = "the 301st one of a MATCH is SPENT, before it looks.")
    static void neitherNotNorEitherTurnsSpentRound() {
        Run x = new Run();
        x.thing(MARK, 0);
        int spent = x.fittingIn(301);
        x.due(SPENT, x.match(x.pattern(NOT, spent, 0, 0), 0));
        x.due(SPENT, x.match(x.pattern(EITHER, spent, spent, 0), 0));
        x.findings(0, 0, 0, 0, 0, 2);
    }

    @Says(words = "the 301st one of a MATCH is SPENT, before it looks.")
    static void eachMatchHasItsOwnSteps() {
        Run x = new Run();
        x.thing(MARK, 0);
        int all = x.fittingIn(300);
        x.due(1, x.match(all, 0));
        x.due(1, x.match(all, 0));
        x.due(300, x.count(STEPS));
        int misses = x.pattern(BOTH, x.fittingIn(298), x.pattern(IS_NOTHING, 0, 0, 0), 0);
        x.rule(misses, NO_ACT, 0, 0);
        x.rule(all, NO_ACT, 0, 0);
        x.due(1, x.apply(0));
        x.due(300, x.count(STEPS));
        x.noFindings();
    }

    @Says(words = "A MATCH: a PATTERN looks at a THING or NOTHING.")
    static void aMatchMayBeOfNothing() {
        Run x = new Run();
        int nothing = x.pattern(IS_NOTHING, 0, 0, 0);
        x.due(1, x.match(nothing, NONE));
        x.due(UNKNOWN, x.match(nothing, 0));
        x.thing(MARK, 0);
        x.due(0, x.match(nothing, 0));
    }

    @Says(words = "A FINDING ends it at once.")
    static void noPatternLooksAfterAFinding() {
        Run x = Run.withAllForms();
        int any = x.anyThing();
        int falls = x.pattern(TELLS, 0, 0, 0);
        x.due(CAST, x.match(x.pattern(BOTH, falls, any, 0), MARK));
        x.due(2, x.count(STEPS));
        x.due(CAST, x.match(x.pattern(EITHER, falls, any, 0), MARK));
        x.due(2, x.count(STEPS));
        x.due(CAST, x.match(x.pattern(NOT, falls, 0, 0), MARK));
        x.due(2, x.count(STEPS));
        x.half(PAIR, 0, MARK);
        x.due(CAST, x.match(x.pattern(HALVES, falls, any, 0), PAIR));
        x.due(2, x.count(STEPS));
        x.due(NOTHING, x.match(x.pattern(EACH, TOLDS, falls, 0), TOLDS));
        x.due(2, x.count(STEPS));
        x.due(NOTHING, x.match(x.pattern(PLACE, TOLDS, 0, falls), TOLDS));
        x.due(CAST, x.match(x.pattern(SURE, ANY, falls, 0), MARK));
        x.findings(5, 2, 0, 0, 0, 0);
    }

    @Says(words = "A FINDING ends it at once.")
    static void aFindingFromFarBelowIsCountedOnce() {
        Run x = new Run();
        x.thing(MARK, 0);
        int p = x.pattern(TELLS, 0, 0, 0);
        for (int k = 0; k < 39; k++) {
            p = x.pattern(k % 2 == 0 ? NOT : EITHER, p, p, 0);
        }
        x.due(CAST, x.match(p, 0));
        x.due(40, x.count(STEPS));
        x.findings(1, 0, 0, 0, 0, 0);
    }

    /** A pattern that keeps what it looks at in all four slots and then does as another one does. */
    static int keepingAll(Run x, int then) {
        int p = then;
        for (int s = 0; s < 4; s++) {
            p = x.pattern(BOTH, x.pattern(KEEP, s, 0, 0), p, 0);
        }
        return p;
    }

    /** Slots hold NONE, 1, 2 and 3, so that each that is not put back can be seen. */
    static Run withSlotsHeld() {
        Run x = Run.withAllForms();
        x.hold(1, SEAL);
        x.hold(2, PAIR);
        x.hold(3, NOTE);
        return x;
    }

    @Says(words = "Unless it FITS, all SLOTS are as they were before.")
    static void slotsArePutBackWhenItDoesNotFit() {
        Run x = withSlotsHeld();
        x.due(0, x.match(keepingAll(x, x.pattern(IS_NOTHING, 0, 0, 0)), MARK));
        x.slots(NONE, SEAL, PAIR, NOTE);
    }

    @Says(words = "Unless it FITS, all SLOTS are as they were before.")
    static void slotsArePutBackWithAFinding() {
        Run x = withSlotsHeld();
        x.due(CAST, x.match(keepingAll(x, x.pattern(TELLS, 0, 0, 0)), MARK));
        x.slots(NONE, SEAL, PAIR, NOTE);
    }

    @Says(words = "Unless it FITS, all SLOTS are as they were before.")
    static void slotsArePutBackWhenItIsSpent() {
        Run x = withSlotsHeld();
        x.due(SPENT, x.match(keepingAll(x, x.fittingIn(301)), MARK));
        x.slots(NONE, SEAL, PAIR, NOTE);
    }

    @Says(words = "Unless it FITS, all SLOTS are as they were before.")
    static void slotsStayWhenItFits() {
        Run x = withSlotsHeld();
        x.due(1, x.match(keepingAll(x, x.anyThing()), MARK));
        x.slots(MARK, MARK, MARK, MARK);
    }

    @Says(words = "Unless it FITS, all SLOTS are as they were before.")
    static void whatAPartKeptStaysIfTheWholeFits() {
        Run x = Run.withAllForms();
        int keepsAndMisses = x.pattern(BOTH, x.pattern(KEEP, 0, 0, 0), x.pattern(IS_NOTHING, 0, 0, 0), 0);
        x.due(1, x.match(x.pattern(EITHER, keepsAndMisses, x.pattern(KEEP, 1, 0, 0), 0), MARK));
        x.slots(MARK, MARK, NONE, NONE);
        x.due(1, x.match(x.pattern(NOT, keepsAndMisses, 0, 0), NOTE));
        x.slots(NOTE, MARK, NONE, NONE);
    }

    public static void main(String[] args) throws Exception {
        Sentences.run(PatternTermsTest.class);
    }
}
