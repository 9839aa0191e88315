/** The document's words on rules: their acts, and how they are applied. */
public final class RuleTermsTest implements Words {

    @Says(words = "RULES 0, 1, .. (16 at most): a PATTERN, an ACT, a KIND k, a place i.")
    static void rulesAreNumberedFromZeroToFifteen() {
        Run x = new Run();
        int any = x.anyThing();
        int nothing = x.pattern(IS_NOTHING, 0, 0, 0);
        for (int r = 0; r < 16; r++) {
            x.due(r, x.rule(r == 15 ? any : nothing, NO_ACT, 0, 0));
        }
        x.due(FULL, x.rule(any, NO_ACT, 0, 0));
        x.due(16, x.count(RULES));
        x.thing(MARK, 0);
        x.due(15, x.apply(0));
        x.due(1, x.told(15, USED));
        x.due(UNKNOWN, x.told(16, USED));
    }

    @Says(words = "RULES 0, 1, .. (16 at most): a PATTERN, an ACT, a KIND k, a place i.")
    static void eachRuleHasItsOwnPatternActKindAndPlace() {
        Run x = Run.withAllForms();
        x.hold(0, SEALS);
        x.hold(1, SEAL);
        x.rule(x.pattern(IS, SHEET, 0, 0), GROW, 0, 0);
        x.rule(x.pattern(IS, MARKS, 0, 0), LAY, MARKS, 0);
        x.rule(x.pattern(IS, TOLDS, 0, 0), LAY, TOLDS, 1);
        x.rule(x.pattern(IS, PAIRS, 0, 0), LAY, PAIRS, 1);
        x.due(2, x.apply(TOLDS));
        x.due(NONE, x.at(SEALS, SEALS, 0));
        x.due(SEAL, x.at(SEALS, SEALS, 1));
        x.due(1, x.apply(MARKS));
        x.due(SEAL, x.at(SEALS, SEALS, 0));
        x.due(CAST, x.apply(PAIRS));
        x.due(CAST, x.apply(SHEET));
    }

    /** One rule whose pattern fits each thing and keeps nothing; slots 0 and 1 are held beforehand. */
    static Run withAct(int act, int kind, int i, int first, int second) {
        Run x = Run.withAllForms();
        x.hold(0, first);
        x.hold(1, second);
        x.rule(x.anyThing(), act, kind, i);
        return x;
    }

    /** The act is done, and changes neither slots nor what is counted of findings. */
    static Run does(Run x) {
        int first = x.slot(0);
        int second = x.slot(1);
        x.due(0, x.apply(MARK));
        x.slots(first, second, NONE, NONE);
        x.noFindings();
        return x;
    }

    /** The act ends with a finding, which changes nothing but what is counted. */
    static void finds(int finding, Run x) {
        String before = x.holdings();
        x.due(finding, x.apply(MARK));
        x.due(before, x.holdings());
        for (int f = CAST; f >= SPENT; f--) {
            x.due(f == finding ? 1 : 0, x.count(CASTS + CAST - f));
        }
        x.due(1, x.told(0, USED));
        x.due(0, x.told(0, FELL));
    }

    @Says(words = "ACTS: 0 nothing.")
    static void theActOfNothingChangesNothing() {
        Run x = withAct(NO_ACT, 99, 99, SEALS, SEAL);
        String before = x.holdings();
        x.due(0, x.apply(MARK));
        x.due(before, x.holdings());
        x.due(1, x.told(0, USED));
        x.noFindings();
    }

    static final String LAY_WORDS = "1 LAY: what SLOT 0 holds, TAKEN for KIND k (7 .. 13), gets at its place i what SLOT 1 holds,"
            + " TAKEN for what KIND k is a row of (CAST: the first, then the other; NOTHING: SLOT 0 holds none; BEYOND; STORE).";

    @Says(words = LAY_WORDS)
    static void layLaysInEachKindOfRow() {
        int[] fitting = {INTS, MARK, SEAL, PAIR, NOTE, MARKS, SEALS};
        for (int kind = SHEET; kind <= SEALS_SHELF; kind++) {
            int other = fitting[kind - SHEET];
            Run x = does(withAct(LAY, kind, 1, kind, other));
            x.due(NONE, x.at(kind, kind, 0));
            x.due(other, x.at(kind, kind, 1));
        }
    }

    @Says(words = LAY_WORDS)
    static void layLaysNothing() {
        Run x = withAct(LAY, TOLDS, 0, TOLDS, NONE);
        x.due(1, x.lay(TOLDS, TOLDS, 0, NOTE));
        does(x);
        x.due(NONE, x.at(TOLDS, TOLDS, 0));
        does(withAct(LAY, MARKS, 0, SEALS, NONE));
        does(withAct(LAY, TOLDS, 0, SEALS, NONE));
        does(withAct(LAY, MARKS_SHELF, 0, SEALS_SHELF, NONE));
    }

    @Says(words = LAY_WORDS)
    static void layTakesARowOfSealsForOneOfMarksOrOfTold() {
        Run x = does(withAct(LAY, MARKS, 0, SEALS, SEAL));
        x.due(SEAL, x.at(SEALS, SEALS, 0));
        x = does(withAct(LAY, TOLDS, 1, SEALS, SEAL));
        x.due(SEAL, x.at(SEALS, SEALS, 1));
        x = does(withAct(LAY, MARKS_SHELF, 1, SEALS_SHELF, SEALS));
        x.due(SEALS, x.at(SEALS_SHELF, SEALS_SHELF, 1));
    }

    @Says(words = LAY_WORDS)
    static void layIsACastOfTheFirst() {
        finds(CAST, withAct(LAY, MARKS, 0, TOLDS, SEAL));
        finds(CAST, withAct(LAY, SEALS, 0, MARKS, SEAL));
        finds(CAST, withAct(LAY, SHEET, 0, INTS, INTS));
        finds(CAST, withAct(LAY, SHEET, 0, MARK, NONE));
    }

    @Says(words = LAY_WORDS)
    static void layIsACastOfTheOther() {
        finds(CAST, withAct(LAY, MARKS, 0, MARKS, NOTE));
        finds(CAST, withAct(LAY, SEALS, 0, SEALS, MARK));
        finds(CAST, withAct(LAY, SHEET, 0, SHEET, LONGS));
        finds(CAST, withAct(LAY, SEALS_SHELF, 0, SEALS_SHELF, MARKS));
    }

    @Says(words = LAY_WORDS)
    static void layFindsThatSlotZeroHoldsNone() {
        finds(NOTHING, withAct(LAY, MARKS, 0, NONE, MARK));
        finds(NOTHING, withAct(LAY, MARKS, 0, NONE, NONE));
    }

    @Says(words = LAY_WORDS)
    static void layIsBeyondWhereNoPlaceIs() {
        for (int i : new int[] {LOWEST, -1, 2, HIGHEST}) {
            finds(BEYOND, withAct(LAY, MARKS, i, MARKS, MARK));
            finds(BEYOND, withAct(LAY, MARKS, i, MARKS, NONE));
        }
        Run x = Run.withAllForms();
        x.hold(0, x.row(MARKS, 0));
        x.rule(x.anyThing(), LAY, MARKS, 0);
        x.due(BEYOND, x.apply(MARK));
    }

    @Says(words = LAY_WORDS)
    static void layIsRefusedByTheRowsOwnForm() {
        finds(STORE, withAct(LAY, MARKS, 0, SEALS, MARK));
        finds(STORE, withAct(LAY, TOLDS, 1, SEALS, NOTE));
        finds(STORE, withAct(LAY, MARKS_SHELF, 1, SEALS_SHELF, MARKS));
    }

    @Says(words = LAY_WORDS)
    static void layFindsInTheOrderThatIsTold() {
        finds(CAST, withAct(LAY, MARKS, 2, TOLDS, MARK));
        finds(CAST, withAct(LAY, MARKS, 0, NONE, NOTE));
        finds(CAST, withAct(LAY, MARKS, 2, SEALS, NOTE));
        finds(NOTHING, withAct(LAY, MARKS, 2, NONE, MARK));
        finds(BEYOND, withAct(LAY, MARKS, 2, SEALS, MARK));
    }

    static final String HALF_WORDS = "2, 3 LEFT, RIGHT: what SLOT 0 holds, TAKEN for a PAIR, gets as that what SLOT 1 holds (NOTHING).";

    @Says(words = HALF_WORDS)
    static void leftAndRightSetTheirOwnHalf() {
        Run x = does(withAct(LEFT, 99, 99, PAIR, SHEET));
        x.due(SHEET, x.at(PAIR, PAIR, 0));
        x.due(NONE, x.at(PAIR, PAIR, 1));
        x = does(withAct(RIGHT, -9, -9, PAIR, PAIR));
        x.due(NONE, x.at(PAIR, PAIR, 0));
        x.due(PAIR, x.at(PAIR, PAIR, 1));
    }

    @Says(words = HALF_WORDS)
    static void leftAndRightSetNothing() {
        for (int side = 0; side < 2; side++) {
            Run x = withAct(LEFT + side, 0, 0, PAIR, NONE);
            x.half(PAIR, 0, MARK);
            x.half(PAIR, 1, SEAL);
            does(x);
            x.due(side == 0 ? NONE : MARK, x.at(PAIR, PAIR, 0));
            x.due(side == 1 ? NONE : SEAL, x.at(PAIR, PAIR, 1));
        }
    }

    @Says(words = HALF_WORDS)
    static void leftAndRightOfWhatIsNoPairAreACast() {
        for (int t = 0; t < Run.FORMS; t++) {
            if (t != PAIR) {
                finds(CAST, withAct(LEFT, 0, 0, t, MARK));
                finds(CAST, withAct(RIGHT, 0, 0, t, MARK));
            }
        }
    }

    @Says(words = HALF_WORDS)
    static void leftAndRightFindThatSlotZeroHoldsNone() {
        finds(NOTHING, withAct(LEFT, 0, 0, NONE, MARK));
        finds(NOTHING, withAct(RIGHT, 0, 0, NONE, NONE));
    }

    @Says(words = "4 TURN: SLOTS 0 and 1 change what they hold.")
    static void turnChangesTheFirstTwoSlots() {
        Run x = withAct(TURN, 99, 99, MARK, SEAL);
        x.hold(2, PAIR);
        x.hold(3, NOTE);
        x.due(0, x.apply(MARK));
        x.slots(SEAL, MARK, PAIR, NOTE);
        x.due(0, x.apply(MARK));
        x.slots(MARK, SEAL, PAIR, NOTE);
        x.noFindings();
    }

    @Says(words = "4 TURN: SLOTS 0 and 1 change what they hold.")
    static void turnChangesNothingToo() {
        Run x = withAct(TURN, 0, 0, NONE, NOTE);
        x.due(0, x.apply(MARK));
        x.slots(NOTE, NONE, NONE, NONE);
        x = withAct(TURN, 0, 0, NONE, NONE);
        x.due(0, x.apply(MARK));
        x.slots(NONE, NONE, NONE, NONE);
        x.noFindings();
    }

    static final String GROW_WORDS = "5 GROW: what SLOT 0 holds, TAKEN for INTS: its place i becomes one more (it wraps; NOTHING; BEYOND).";

    @Says(words = GROW_WORDS)
    static void growAddsOneAtItsPlace() {
        Run x = does(withAct(GROW, 99, 1, INTS, SEAL));
        x.due(0, x.number(INTS, INTS, 0));
        x.due(1, x.number(INTS, INTS, 1));
        x.put(INTS, INTS, 1, -1);
        does(x);
        x.due(0, x.number(INTS, INTS, 1));
    }

    @Says(words = GROW_WORDS)
    static void growWraps() {
        Run x = withAct(GROW, 0, 0, INTS, NONE);
        x.put(INTS, INTS, 0, HIGHEST);
        does(x);
        x.due(LOWEST, x.number(INTS, INTS, 0));
        does(x);
        x.due(LOWEST + 1, x.number(INTS, INTS, 0));
    }

    @Says(words = GROW_WORDS)
    static void growOfWhatIsNoIntsIsACast() {
        for (int t = 0; t < Run.FORMS; t++) {
            if (t != INTS) {
                finds(CAST, withAct(GROW, t, 0, t, INTS));
                finds(CAST, withAct(GROW, t, 2, t, INTS));
            }
        }
    }

    @Says(words = GROW_WORDS)
    static void growFindsThatSlotZeroHoldsNone() {
        finds(NOTHING, withAct(GROW, 0, 0, NONE, INTS));
        finds(NOTHING, withAct(GROW, 0, 2, NONE, INTS));
    }

    @Says(words = GROW_WORDS)
    static void growIsBeyondWhereNoPlaceIs() {
        for (int i : new int[] {LOWEST, -1, 2, HIGHEST}) {
            finds(BEYOND, withAct(GROW, 0, i, INTS, NONE));
        }
        Run x = Run.withAllForms();
        x.hold(0, x.row(INTS, 0));
        x.rule(x.anyThing(), GROW, 0, 0);
        x.due(BEYOND, x.apply(MARK));
    }

    @Says(words = "TO APPLY the RULES to a THING: by numbers: a MATCH of its PATTERN:")
    static void rulesAreTriedByTheirNumbers() {
        Run x = Run.withAllForms();
        int keep = x.pattern(KEEP, 0, 0, 0);
        int any = x.anyThing();
        x.rule(x.pattern(IS, SEAL, 0, 0), NO_ACT, 0, 0);
        x.rule(keep, NO_ACT, 0, 0);
        x.rule(any, NO_ACT, 0, 0);
        x.due(0, x.apply(SEAL));
        x.slots(NONE, NONE, NONE, NONE);
        x.due(1, x.apply(MARK));
        x.slots(MARK, NONE, NONE, NONE);
        x.due(0, x.told(2, USED));
    }

    @Says(words = "TO APPLY the RULES to a THING: by numbers: a MATCH of its PATTERN:")
    static void withoutRulesNoneIsUsed() {
        Run x = Run.withAllForms();
        x.due(NONE, x.apply(MARK));
        x.due(0, x.count(STEPS));
        x.noFindings();
    }

    @Says(words = "with a FINDING the RULE FELL, and the next one is tried;")
    static void theRuleAfterOneThatFellIsTried() {
        Run x = Run.withAllForms();
        int any = x.anyThing();
        x.rule(x.pattern(TELLS, 0, 0, 0), NO_ACT, 0, 0);
        x.rule(x.fittingIn(301), NO_ACT, 0, 0);
        x.rule(x.pattern(DIGIT, INTS, 2, 0), NO_ACT, 0, 0);
        x.rule(any, NO_ACT, 0, 0);
        x.due(3, x.apply(INTS));
        for (int r = 0; r < 3; r++) {
            x.due(0, x.told(r, USED));
            x.due(1, x.told(r, FELL));
        }
        x.due(1, x.told(3, USED));
        x.due(0, x.told(3, FELL));
        x.findings(1, 0, 1, 0, 0, 1);
    }

    @Says(words = "with a FINDING the RULE FELL, and the next one is tried;")
    static void ifAllFellNoneIsUsed() {
        Run x = Run.withAllForms();
        int tells = x.pattern(TELLS, 0, 0, 0);
        for (int r = 0; r < 16; r++) {
            x.rule(tells, NO_ACT, 0, 0);
        }
        x.due(NONE, x.apply(MARK));
        for (int r = 0; r < 16; r++) {
            x.due(1, x.told(r, FELL));
        }
        x.findings(16, 0, 0, 0, 0, 0);
    }

    @Says(words = "with a FINDING the RULE FELL, and the next one is tried;")
    static void whatARuleThatFellKeptIsForgotten() {
        Run x = Run.withAllForms();
        int falls = x.pattern(BOTH, x.pattern(KEEP, 0, 0, 0), x.pattern(TELLS, 0, 0, 0), 0);
        x.rule(falls, NO_ACT, 0, 0);
        x.rule(x.pattern(SAME, 0, 0, 0), NO_ACT, 0, 0);
        x.due(NONE, x.apply(MARK));
        x.slots(NONE, NONE, NONE, NONE);
    }

    @Says(words = "if it does not FIT, the next one;")
    static void theRuleAfterOneThatDoesNotFitIsTried() {
        Run x = Run.withAllForms();
        int misses = x.pattern(BOTH, x.pattern(KEEP, 0, 0, 0), x.pattern(IS_NOTHING, 0, 0, 0), 0);
        x.rule(misses, NO_ACT, 0, 0);
        x.rule(x.pattern(KEEP, 1, 0, 0), NO_ACT, 0, 0);
        x.due(1, x.apply(NOTE));
        x.slots(NONE, NOTE, NONE, NONE);
        x.due(0, x.told(0, USED));
        x.due(0, x.told(0, FELL));
        x.due(1, x.count(STEPS));
    }

    @Says(words = "if it does not FIT, the next one;")
    static void ifNoneFitsNoneIsUsed() {
        Run x = Run.withAllForms();
        int nothing = x.pattern(IS_NOTHING, 0, 0, 0);
        for (int r = 0; r < 16; r++) {
            x.rule(nothing, NO_ACT, 0, 0);
        }
        x.due(NONE, x.apply(MARK));
        for (int r = 0; r < 16; r++) {
            x.due(0, x.told(r, USED));
            x.due(0, x.told(r, FELL));
        }
    }

    @Says(words = "if it FITS, it is USED, its ACT is done, and that is all")
    static void onlyTheFirstRuleThatFitsIsUsed() {
        Run x = Run.withAllForms();
        int keep = x.pattern(KEEP, 0, 0, 0);
        x.rule(keep, GROW, 0, 0);
        x.rule(keep, GROW, 0, 1);
        x.rule(x.pattern(TELLS, 0, 0, 0), NO_ACT, 0, 0);
        x.due(0, x.apply(INTS));
        x.due(1, x.number(INTS, INTS, 0));
        x.due(0, x.number(INTS, INTS, 1));
        x.due(1, x.told(0, USED));
        x.due(0, x.told(1, USED));
        x.due(0, x.told(2, FELL));
    }

    @Says(words = "if it FITS, it is USED, its ACT is done, and that is all")
    static void theActUsesWhatTheMatchKept() {
        Run x = Run.withAllForms();
        x.half(PAIR, 0, SEALS);
        x.half(PAIR, 1, SEAL);
        x.hold(0, MARK);
        x.hold(1, MARK);
        x.rule(x.pattern(HALVES, x.pattern(KEEP, 0, 0, 0), x.pattern(KEEP, 1, 0, 0), 0), LAY, SEALS, 0);
        x.due(0, x.apply(PAIR));
        x.due(SEAL, x.at(SEALS, SEALS, 0));
    }

    @Says(words = "(with a FINDING of the ACT nothing is changed by the ACT).")
    static void anActWithAFindingEndsAllWithoutAnotherRule() {
        Run x = Run.withAllForms();
        x.rule(x.pattern(KEEP, 0, 0, 0), GROW, 0, 0);
        x.rule(x.anyThing(), NO_ACT, 0, 0);
        x.due(CAST, x.apply(LONGS));
        x.due(1, x.told(0, USED));
        x.due(0, x.told(0, FELL));
        x.due(0, x.told(1, USED));
        x.slots(LONGS, NONE, NONE, NONE);
        x.due(0, x.number(LONGS, LONGS, 0));
    }

    @Says(words = "(with a FINDING of the ACT nothing is changed by the ACT).")
    static void aRefusedPlaceHoldsWhatItHeld() {
        Run x = withAct(LAY, MARKS, 1, SEALS, MARK);
        x.lay(SEALS, SEALS, 1, SEAL);
        x.due(STORE, x.apply(MARK));
        x.due(NONE, x.at(SEALS, SEALS, 0));
        x.due(SEAL, x.at(SEALS, SEALS, 1));
        x.slots(SEALS, MARK, NONE, NONE);
    }

    public static void main(String[] args) throws Exception {
        Sentences.run(RuleTermsTest.class);
    }
}
