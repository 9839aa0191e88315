/** The document's words ahead of the promises: things, kinds, findings, and what is refused. */
public final class TermsTest implements Words {
    /** What the kinds 7 to 13 are rows of. */
    static final int[] PARTS = {INTS, MARK, SEAL, PAIR, TOLD, MARKS, SEALS};

    static int partOf(int kind) {
        return PARTS[kind - SHEET];
    }

    @Says(words = "THINGS, numbered from 0 on as they are made (80 at most), have a FORM")
    static void thingsAreNumberedFromZeroToSeventyNine() {
        Run x = new Run();
        for (int t = 0; t < 80; t++) {
            x.due(t, t % 2 == 0 ? x.thing(NOTE, t) : x.row(CHARS, t % 7));
        }
        x.due(FULL, x.thing(NOTE, 0));
        x.due(FULL, x.row(CHARS, 0));
        x.due(80, x.count(THINGS));
        x.due(1, x.is(0, NOTE));
        x.due(1, x.is(79, CHARS));
        x.due(UNKNOWN, x.is(80, CHARS));
    }

    @Says(words = "THINGS, numbered from 0 on as they are made (80 at most), have a FORM")
    static void theLastThingIsAsGoodAsTheFirst() {
        Run x = new Run();
        for (int t = 0; t < 78; t++) {
            x.thing(MARK, 0);
        }
        x.due(78, x.row(SHEET, 6));
        x.due(79, x.row(INTS, 6));
        for (int i = 0; i < 6; i++) {
            x.due(1, x.put(79, INTS, i, 100 + i));
            x.due(1, x.lay(78, SHEET, i, 79));
        }
        for (int i = 0; i < 6; i++) {
            x.due(100 + i, x.number(79, INTS, i));
            x.due(79, x.at(78, SHEET, i));
        }
    }

    @Says(words = "THINGS, numbered from 0 on as they are made (80 at most), have a FORM")
    static void whatIsRefusedTakesNoNumber() {
        Run x = new Run();
        x.due(0, x.thing(MARK, 0));
        x.due(OUTSIDE, x.thing(INTS, 0));
        x.due(OUTSIDE, x.row(NOTE, 0));
        x.due(SIZE, x.row(INTS, -1));
        x.due(1, x.row(INTS, 0));
    }

    @Says(words = "An object is used for at most 512 calls after it has been made; what later calls answer is free.")
    static void theFiveHundredAndTwelfthCallIsStillAsTold() {
        Run x = new Run();
        x.row(INTS, 1);
        x.rule(x.pattern(KEEP, 0, 0, 0), GROW, 0, 0);
        while (x.callsMade() < 510) {
            x.due(0, x.apply(0));
        }
        x.due(507, x.number(0, INTS, 0));
        x.due(507, x.told(0, USED));
        x.due(512, x.callsMade());
    }

    @Says(words = "0 a MARK, 1 a SEAL, 3 a NOTE, each with a NUMBER;")
    static void aSealAndANoteKeepTheirNumbers() {
        Run x = new Run();
        int seal = x.thing(SEAL, 7);
        int note = x.thing(NOTE, 8);
        x.thing(MARK, 9);
        x.due(1, x.match(x.pattern(TELLS, 15, 0, 0), seal));
        x.due(1, x.match(x.pattern(TELLS, 8, 0, 0), note));
    }

    @Says(words = "2 a PAIR, with a LEFT and a RIGHT, each a THING or NOTHING (at first);")
    static void aNewPairHoldsNothing() {
        Run x = new Run();
        x.due(0, x.thing(PAIR, 0));
        x.due(NONE, x.at(0, PAIR, 0));
        x.due(NONE, x.at(0, PAIR, 1));
    }

    @Says(words = "2 a PAIR, with a LEFT and a RIGHT, each a THING or NOTHING (at first);")
    static void aHalfHoldsAThingOfEachForm() {
        Run x = Run.withAllForms();
        for (int t = 0; t < Run.FORMS; t++) {
            x.due(1, x.half(PAIR, 0, t));
            x.due(1, x.half(PAIR, 1, Run.FORMS - 1 - t));
            x.due(t, x.at(PAIR, PAIR, 0));
            x.due(Run.FORMS - 1 - t, x.at(PAIR, PAIR, 1));
        }
    }

    @Says(words = "4 INTS, 5 LONGS, 6 CHARS: rows of numbers, 0 at first;")
    static void newNumbersAreZero() {
        Run x = new Run();
        for (int form = INTS; form <= CHARS; form++) {
            int row = x.row(form, 6);
            for (int i = 0; i < 6; i++) {
                x.due(0, x.number(row, form, i));
            }
        }
    }

    @Says(words = "7 a SHEET: a row of INTS; 8 a row of MARKS, 9 of SEALS, 10 of PAIRS, 11 of what is TOLD;"
            + " 12 a SHELF: a row of rows of MARKS, 13 of rows of SEALS.")
    static void eachRowTakesWhatItIsARowOfAndNothingElse() {
        Run x = Run.withAllForms();
        for (int row = SHEET; row <= SEALS_SHELF; row++) {
            for (int other = 0; other < Run.FORMS; other++) {
                x.due(x.is(other, partOf(row)) == 1 ? 1 : CAST, x.lay(row, row, 0, other));
            }
        }
    }

    @Says(words = "Places of 7 to 13 hold NOTHING at first.")
    static void newPlacesHoldNothing() {
        Run x = new Run();
        for (int form = SHEET; form <= SEALS_SHELF; form++) {
            int row = x.row(form, 6);
            for (int i = 0; i < 6; i++) {
                x.due(NONE, x.at(row, form, i));
            }
        }
    }

    /** Holds each kind of each form to be as told: a bit a kind. */
    static void kindsAre(int form, int... kinds) {
        Run x = Run.withAllForms();
        int want = 0;
        for (int kind : kinds) {
            want |= 1 << kind;
        }
        for (int kind = 0; kind <= ANY; kind++) {
            x.due(want >> kind & 1, x.is(form, kind));
        }
    }

    @Says(words = "KINDS that a THING IS: its FORM, and 15 (each does); a SEAL is a MARK; SEALS and NOTES are 14: what is TOLD")
    static void formsThatAreOfTheirOwnKindAlone() {
        for (int form : new int[] {MARK, PAIR, INTS, LONGS, CHARS, SHEET, MARKS, PAIRS, TOLDS, MARKS_SHELF}) {
            kindsAre(form, form, ANY);
        }
    }

    @Says(words = "KINDS that a THING IS: its FORM, and 15 (each does); a SEAL is a MARK; SEALS and NOTES are 14: what is TOLD")
    static void aSealIsAMarkAndTold() {
        kindsAre(SEAL, SEAL, MARK, TOLD, ANY);
    }

    @Says(words = "KINDS that a THING IS: its FORM, and 15 (each does); a SEAL is a MARK; SEALS and NOTES are 14: what is TOLD")
    static void aNoteIsTold() {
        kindsAre(NOTE, NOTE, TOLD, ANY);
    }

    @Says(words = "(a SEAL tells 2 times its NUMBER and 1, a NOTE its NUMBER);")
    static void whatTheLowestAndHighestTell() {
        Run x = new Run();
        int[] numbers = {-999, -1, 0, 1, 999};
        for (int number : numbers) {
            int seal = x.thing(SEAL, number);
            int note = x.thing(NOTE, number);
            x.due(1, x.match(x.pattern(TELLS, 2 * number + 1, 0, 0), seal));
            x.due(1, x.match(x.pattern(TELLS, number, 0, 0), note));
            x.due(0, x.match(x.pattern(TELLS, 2 * number, 0, 0), seal));
            x.due(0, x.match(x.pattern(TELLS, number + 1, 0, 0), note));
        }
    }

    @Says(words = "9 IS 8 and 11, too, 13 IS 12.")
    static void aRowOfSealsIsOneOfMarksAndOfTold() {
        kindsAre(SEALS, SEALS, MARKS, TOLDS, ANY);
    }

    @Says(words = "9 IS 8 and 11, too, 13 IS 12.")
    static void aShelfOfSealsIsOneOfMarks() {
        kindsAre(SEALS_SHELF, SEALS_SHELF, MARKS_SHELF, ANY);
    }

    @Says(words = "NOTHING is of no KIND (not 15), but may be TAKEN for each.")
    static void nothingIsOfNoKind() {
        Run x = new Run();
        for (int kind = 0; kind <= ANY; kind++) {
            x.due(0, x.match(x.pattern(IS, kind, 0, 0), NONE));
        }
    }

    @Says(words = "NOTHING is of no KIND (not 15), but may be TAKEN for each.")
    static void nothingMayBeTakenForEachKind() {
        Run x = new Run();
        int nothing = x.pattern(IS_NOTHING, 0, 0, 0);
        for (int kind = 0; kind <= ANY; kind++) {
            x.due(1, x.match(x.pattern(SURE, kind, nothing, 0), NONE));
        }
        x.noFindings();
    }

    @Says(words = "NOTHING is of no KIND (not 15), but may be TAKEN for each.")
    static void nothingMayBeLaidInEachRow() {
        Run x = Run.withAllForms();
        for (int kind = SHEET; kind <= SEALS_SHELF; kind++) {
            x.due(1, x.lay(kind, kind, 0, NONE));
            x.due(NONE, x.at(kind, kind, 0));
        }
        x.due(1, x.lay(SEALS, MARKS, 0, NONE));
        x.due(1, x.lay(SEALS, TOLDS, 0, NONE));
        x.due(1, x.lay(SEALS_SHELF, MARKS_SHELF, 0, NONE));
        x.noFindings();
    }

    @Says(words = "FINDINGS: 1 CAST: something is TAKEN for a KIND that it is not;")
    static void takingForAnotherKindIsACast() {
        Run x = Run.withAllForms();
        x.due(CAST, x.match(x.pattern(SURE, SEAL, x.anyThing(), 0), MARK));
        x.due(CAST, x.lay(MARKS, SEALS, 0, SEAL));
        x.due(CAST, x.half(MARK, 0, NONE));
        x.due(CAST, x.put(LONGS, INTS, 0, 0));
        x.due(CAST, x.at(TOLDS, SEALS, 0));
        x.findings(5, 0, 0, 0, 0, 0);
    }

    @Says(words = "2 NOTHING: NOTHING is looked into;")
    static void lookingIntoNothingIsFound() {
        Run x = new Run();
        x.due(NOTHING, x.match(x.pattern(PLACE, SHEET, 0, x.anyThing()), NONE));
        x.due(NOTHING, x.match(x.pattern(DIGIT, INTS, 0, 0), NONE));
        x.due(NOTHING, x.match(x.pattern(TELLS, 0, 0, 0), NONE));
        x.due(NOTHING, x.match(x.pattern(LONG, INTS, 0, 0), NONE));
        x.findings(0, 4, 0, 0, 0, 0);
    }

    @Says(words = "3 BEYOND: there is no such place;")
    static void eachSizeHasItsPlacesAndNoOthers() {
        for (int n = 0; n <= 6; n++) {
            Run x = new Run();
            x.row(INTS, n);
            x.row(SHEET, n);
            int beyond = 0;
            for (int i : new int[] {LOWEST, -1, 0, 1, 2, 3, 4, 5, 6, 7, HIGHEST}) {
                boolean there = i >= 0 && i < n;
                beyond += there ? 0 : 3;
                x.due(there ? 1 : BEYOND, x.put(0, INTS, i, 5));
                x.due(there ? 0 : BEYOND, x.thrown(0, INTS, i));
                x.due(there ? 1 : BEYOND, x.lay(1, SHEET, i, 0));
                x.due(there ? 0 : BEYOND, x.at(1, SHEET, i));
            }
            x.findings(0, 0, beyond, 0, 0, 0);
        }
    }

    @Says(words = "4 STORE: a row refuses what is not of what its own FORM is a row of;")
    static void aRowRefusesByItsOwnForm() {
        Run x = Run.withAllForms();
        x.due(STORE, x.lay(SEALS, MARKS, 0, MARK));
        x.due(STORE, x.lay(SEALS, TOLDS, 0, NOTE));
        x.due(STORE, x.lay(SEALS_SHELF, MARKS_SHELF, 0, MARKS));
        x.findings(0, 0, 0, 3, 0, 0);
        x.due(1, x.lay(SEALS, MARKS, 0, SEAL));
        x.due(1, x.lay(SEALS, TOLDS, 1, SEAL));
        x.due(1, x.lay(SEALS_SHELF, MARKS_SHELF, 0, SEALS));
    }

    @Says(words = "5 SIZE: a size below 0;")
    static void aSizeBelowZeroIsFound() {
        Run x = new Run();
        x.due(SIZE, x.row(INTS, -1));
        x.due(SIZE, x.row(SEALS_SHELF, LOWEST));
        x.findings(0, 0, 0, 0, 2, 0);
        x.due(0, x.row(INTS, 0));
        x.findings(0, 0, 0, 0, 2, 0);
    }

    @Says(words = "6 SPENT.")
    static void tooManyStepsAreSpent() {
        Run x = new Run();
        x.thing(MARK, 0);
        x.due(SPENT, x.match(x.fittingIn(301), 0));
        x.findings(0, 0, 0, 0, 0, 1);
    }

    @Says(words = "They are answered as -20 less them.")
    static void findingsAreAnsweredBelowTwenty() {
        Run x = Run.withAllForms();
        x.due(-20 - 1, x.half(MARK, 0, NONE));
        x.due(-20 - 2, x.match(x.pattern(TELLS, 0, 0, 0), NONE));
        x.due(-20 - 3, x.put(INTS, INTS, 2, 0));
        x.due(-20 - 4, x.lay(SEALS, MARKS, 0, MARK));
        x.due(-20 - 5, x.row(INTS, -1));
        x.due(-20 - 6, x.match(x.fittingIn(301), 0));
        x.findings(1, 1, 1, 1, 1, 1);
    }

    /** An object that has something in each of its corners, so that a change anywhere can be seen. */
    static Run busy() {
        Run x = Run.withAllForms();
        x.half(PAIR, 0, NOTE);
        x.half(PAIR, 1, PAIR);
        x.put(INTS, INTS, 1, 41);
        x.put(LONGS, LONGS, 0, 42);
        x.put(CHARS, CHARS, 1, 43);
        x.lay(SHEET, SHEET, 0, INTS);
        x.lay(SEALS, SEALS, 1, SEAL);
        x.hold(0, INTS);
        x.hold(1, NOTE);
        x.hold(2, MARK);
        x.hold(3, SEAL);
        x.rule(x.pattern(TELLS, 13, 0, 0), GROW, 0, 1);
        x.due(0, x.apply(NOTE));
        x.due(NONE, x.apply(MARK));
        x.due(BEYOND, x.put(INTS, INTS, 2, 0));
        return x;
    }

    @Says(words = "Refused, and nothing changes: UNKNOWN (no such THING, PATTERN, RULE), OUTSIDE (a number is not as told), FULL:")
    static void nothingChangesWithAnUnknownThing() {
        Run x = busy();
        String before = x.picture();
        for (int t : new int[] {LOWEST, -6, -1, 14, 80, HIGHEST}) {
            x.due(UNKNOWN, x.lay(t, SHEET, 0, INTS));
            x.due(UNKNOWN, x.lay(SHEET, SHEET, 0, t));
            x.due(UNKNOWN, x.half(t, 0, MARK));
            x.due(UNKNOWN, x.half(PAIR, 0, t));
            x.due(UNKNOWN, x.put(t, INTS, 0, 1));
            x.due(0, x.number(t, INTS, 0));
            x.due(UNKNOWN, x.at(t, SHEET, 0));
            x.due(UNKNOWN, x.is(t, MARK));
            x.due(UNKNOWN, x.match(0, t));
            x.due(UNKNOWN, x.apply(t));
        }
        x.due(before, x.picture());
    }

    @Says(words = "Refused, and nothing changes: UNKNOWN (no such THING, PATTERN, RULE), OUTSIDE (a number is not as told), FULL:")
    static void noneIsNoThingWhereNothingIsTold() {
        Run x = busy();
        String before = x.picture();
        x.due(UNKNOWN, x.lay(NONE, SHEET, 0, INTS));
        x.due(UNKNOWN, x.half(NONE, 0, MARK));
        x.due(UNKNOWN, x.put(NONE, INTS, 0, 1));
        x.due(0, x.number(NONE, INTS, 0));
        x.due(UNKNOWN, x.at(NONE, SHEET, 0));
        x.due(UNKNOWN, x.is(NONE, ANY));
        x.due(UNKNOWN, x.apply(NONE));
        x.due(before, x.picture());
    }

    @Says(words = "Refused, and nothing changes: UNKNOWN (no such THING, PATTERN, RULE), OUTSIDE (a number is not as told), FULL:")
    static void nothingChangesWithAnUnknownPatternOrRule() {
        Run x = busy();
        String before = x.picture();
        for (int p : new int[] {LOWEST, NONE, -1, 5, 40, HIGHEST}) {
            x.due(UNKNOWN, x.match(p, MARK));
            x.due(UNKNOWN, x.match(p, NONE));
            x.due(UNKNOWN, x.rule(p, NO_ACT, 0, 0));
            x.due(UNKNOWN, x.pattern(NOT, p, 0, 0));
        }
        for (int r : new int[] {LOWEST, NONE, -1, 1, 16, HIGHEST}) {
            x.due(UNKNOWN, x.told(r, USED));
        }
        x.due(before, x.picture());
    }

    @Says(words = "Refused, and nothing changes: UNKNOWN (no such THING, PATTERN, RULE), OUTSIDE (a number is not as told), FULL:")
    static void nothingChangesWithANumberThatIsNotAsTold() {
        Run x = busy();
        String before = x.picture();
        for (int far : new int[] {LOWEST, -1, 16, HIGHEST}) {
            x.due(OUTSIDE, x.thing(far, 0));
            x.due(OUTSIDE, x.row(far, 1));
            x.due(OUTSIDE, x.lay(SHEET, far, 0, INTS));
            x.due(OUTSIDE, x.half(PAIR, far, MARK));
            x.due(OUTSIDE, x.put(INTS, far, 0, 1));
            x.due(0, x.number(INTS, far, 1));
            x.due(OUTSIDE, x.at(PAIR, PAIR, far));
            x.due(OUTSIDE, x.at(SHEET, far, 0));
            x.due(OUTSIDE, x.is(MARK, far));
            x.due(OUTSIDE, x.pattern(far, 0, 0, 0));
            x.due(OUTSIDE, x.pattern(KEEP, far, 0, 0));
            x.due(OUTSIDE, x.slot(far));
            x.due(OUTSIDE, x.rule(0, far, SHEET, 0));
            x.due(OUTSIDE, x.rule(0, LAY, far, 0));
            x.due(OUTSIDE, x.told(0, far));
            x.due(OUTSIDE, x.count(far));
        }
        x.due(before, x.picture());
    }

    @Says(words = "Refused, and nothing changes: UNKNOWN (no such THING, PATTERN, RULE), OUTSIDE (a number is not as told), FULL:")
    static void nothingChangesWhenThingsAreFull() {
        Run x = new Run();
        x.row(INTS, 1);
        for (int t = 1; t < 80; t++) {
            x.thing(MARK, 0);
        }
        x.due(1, x.put(0, INTS, 0, 5));
        String before = x.picture();
        x.due(FULL, x.thing(PAIR, 0));
        x.due(FULL, x.row(INTS, 6));
        x.due(FULL, x.row(INTS, -1));
        x.due(before, x.picture());
    }

    @Says(words = "Refused, and nothing changes: UNKNOWN (no such THING, PATTERN, RULE), OUTSIDE (a number is not as told), FULL:")
    static void nothingChangesWhenPatternsOrRulesAreFull() {
        Run x = Run.withAllForms();
        int any = x.anyThing();
        while (x.count(PATTERNS) < 40) {
            x.pattern(IS_NOTHING, 0, 0, 0);
        }
        while (x.count(RULES) < 16) {
            x.rule(any, NO_ACT, 0, 0);
        }
        x.due(0, x.apply(MARK));
        String before = x.picture();
        x.due(FULL, x.pattern(KEEP, 0, 0, 0));
        x.due(FULL, x.rule(any, TURN, 0, 0));
        x.due(before, x.picture());
        x.due(0, x.match(39, MARK));
        x.due(0, x.apply(MARK));
    }

    @Says(words = "the first of these that fits, ahead of FINDINGS, but where a comment has another order.")
    static void unknownIsAheadOfOutside() {
        Run x = Run.withAllForms();
        x.anyThing();
        x.due(UNKNOWN, x.lay(14, CHARS, 0, MARK));
        x.due(UNKNOWN, x.lay(SHEET, CHARS, 0, 14));
        x.due(UNKNOWN, x.half(14, 2, MARK));
        x.due(UNKNOWN, x.half(PAIR, 2, 14));
        x.due(UNKNOWN, x.put(14, SHEET, 0, 0));
        x.due(UNKNOWN, x.at(14, CHARS, 0));
        x.due(UNKNOWN, x.at(14, PAIR, 2));
        x.due(UNKNOWN, x.is(14, 16));
        x.due(UNKNOWN, x.rule(1, 6, 0, 0));
        x.due(UNKNOWN, x.rule(1, LAY, CHARS, 0));
        x.due(UNKNOWN, x.told(0, 2));
    }

    @Says(words = "the first of these that fits, ahead of FINDINGS, but where a comment has another order.")
    static void outsideIsAheadOfFull() {
        Run x = new Run();
        for (int t = 0; t < 80; t++) {
            x.thing(MARK, 0);
        }
        for (int p = 0; p < 40; p++) {
            x.anyThing();
        }
        for (int r = 0; r < 16; r++) {
            x.rule(0, NO_ACT, 0, 0);
        }
        x.due(OUTSIDE, x.thing(INTS, 0));
        x.due(OUTSIDE, x.thing(MARK, 1000));
        x.due(OUTSIDE, x.row(NOTE, 0));
        x.due(OUTSIDE, x.row(INTS, 7));
        x.due(OUTSIDE, x.pattern(14, 0, 0, 0));
        x.due(OUTSIDE, x.pattern(KEEP, 4, 0, 0));
        x.due(UNKNOWN, x.pattern(NOT, 40, 0, 0));
        x.due(UNKNOWN, x.rule(40, NO_ACT, 0, 0));
        x.due(OUTSIDE, x.rule(0, 6, 0, 0));
        x.due(OUTSIDE, x.rule(0, LAY, CHARS, 0));
    }

    @Says(words = "the first of these that fits, ahead of FINDINGS, but where a comment has another order.")
    static void whatIsRefusedIsNotFound() {
        Run x = Run.withAllForms();
        x.due(OUTSIDE, x.row(NOTE, -1));
        x.due(UNKNOWN, x.lay(MARK, SHEET, 9, 14));
        x.due(OUTSIDE, x.lay(MARK, CHARS, 9, MARK));
        x.due(UNKNOWN, x.half(MARK, 0, 14));
        x.due(OUTSIDE, x.half(MARK, 2, MARK));
        x.due(OUTSIDE, x.put(MARK, SHEET, 9, 0));
        x.due(OUTSIDE, x.at(MARK, CHARS, 9));
        x.due(OUTSIDE, x.at(MARK, PAIR, 2));
        x.due(UNKNOWN, x.match(x.pattern(TELLS, 0, 0, 0), 14));
        for (int t = Run.FORMS; t < 80; t++) {
            x.thing(MARK, 0);
        }
        x.due(FULL, x.row(INTS, -1));
        x.noFindings();
    }

    public static void main(String[] args) throws Exception {
        Sentences.run(TermsTest.class);
    }
}
