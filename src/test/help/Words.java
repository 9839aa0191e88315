/** The document's words for numbers. */
interface Words {
    int UNKNOWN = -1, OUTSIDE = -2, FULL = -4, NONE = -5;
    int CAST = -21, NOTHING = -22, BEYOND = -23, STORE = -24, SIZE = -25, SPENT = -26;

    int MARK = 0, SEAL = 1, PAIR = 2, NOTE = 3, INTS = 4, LONGS = 5, CHARS = 6, SHEET = 7;
    int MARKS = 8, SEALS = 9, PAIRS = 10, TOLDS = 11, MARKS_SHELF = 12, SEALS_SHELF = 13, TOLD = 14, ANY = 15;

    int IS = 0, SURE = 1, IS_NOTHING = 2, HALVES = 3, EACH = 4, PLACE = 5, DIGIT = 6;
    int BOTH = 7, EITHER = 8, NOT = 9, KEEP = 10, SAME = 11, TELLS = 12, LONG = 13;

    int NO_ACT = 0, LAY = 1, LEFT = 2, RIGHT = 3, TURN = 4, GROW = 5;

    int THINGS = 0, PATTERNS = 1, RULES = 2, STEPS = 3;
    int CASTS = 4, NOTHINGS = 5, BEYONDS = 6, STORES = 7, SIZES = 8, SPENTS = 9;

    int USED = 0, FELL = 1;

    int LOWEST = Integer.MIN_VALUE, HIGHEST = Integer.MAX_VALUE;
}
