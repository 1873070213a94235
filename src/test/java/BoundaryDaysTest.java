import java.io.IOException;

/** The boundary sentences of promises 31 to 39: days by lots, images, the host. */
public final class BoundaryDaysTest extends BoundaryKit {
    public static void main(String[] args) throws IOException {
        run(BoundaryDaysTest.class, 31, 39);
    }

    private static KeysForSecond many(int people) {
        KeysForSecond x = new KeysForSecond();
        for (int p = 0; p < people; p++) {
            x.citizen(50, 100 * p + 7);
        }
        return x;
    }

    /** What stands at a place of a sheet of that sort, if it is 0 .. 99, else -1: 0 is alone, so that it tells it. */
    private static int value(KeysForSecond x, int s, int i, int sort) {
        x.sheet(3, sort, 1);
        x.copy(s, i, 3, 0, 1);
        return x.baskets(3, 0, 1);
    }

    private static void values(String what, KeysForSecond x, int s, int sort, int... due) {
        for (int i = 0; i < due.length; i++) {
            due(what + ", number " + i, value(x, s, i, sort), due[i]);
        }
        due(what + ", how many", x.copy(s, 0, s, 0, due.length), due.length);
        due(what + ", no more", x.copy(s, 0, s, 0, due.length + 1), -12);
    }

    // ---- 31: drawn

    @Says("DAYS by a SEED of n TRIES (0 .. 60): DOORS (bits) with a SECOND then (what 0), how many TRIES were 2 (1). BAD.")
    static void promise31_badNumbers() {
        for (int seed : new int[] {-1, 100000, MIN, MAX}) {
            refused(-2, "drawn", seed, 0, 0);
            refused(-2, "drawn", seed, 60, 1);
        }
        for (int n : new int[] {-1, 61, MIN, MAX}) {
            refused(-2, "drawn", 0, n, 0);
            refused(-2, "drawn", 99999, n, 1);
        }
        for (int what : new int[] {-1, 2, MIN, MAX}) {
            refused(-2, "drawn", 0, 0, what);
            refused(-2, "drawn", 99999, 60, what);
        }
        due("of nobody", new KeysForSecond().drawn(100000, 0, 0), -2);
    }

    // What is due of lots in these two promises was counted apart, by the document's words and a few lines of Python.

    @Says("DAYS by a SEED (0 .. 99999), of n TRIES")
    static void promise31_theFirstAndTheLastSeed() {
        KeysForSecond x = many(6);
        due("seed 0", x.drawn(0, 60, 1), 43);
        due("seed 1", x.drawn(1, 60, 1), 42);
        due("seed 99998", x.drawn(99998, 60, 1), 45);
        due("seed 99999", x.drawn(99999, 60, 1), 44);
        due("seed 0, five tries", x.drawn(0, 5, 1), 0);
        due("seed 0, six tries", x.drawn(0, 6, 0), 128);
    }

    @Says("LOTS: the first is (SEED and 1) times 48271 modulo 2147483647, "
        + "each further one the last times 48271 modulo 2147483647.")
    static void promise31_lotsByHand() {
        // Of seed 0: 48271, 182605794, 1291394886, 1914720637: 1 tries door 2, 0 tries door 5.
        // Of seed 99999: 100000 times 48271 is 4827100000, less 4294967294 is 532132706: 2 tries a door, which is 7.
        int[][] rows = {{0, 1, 2, 1}, {0, 2, 5, 0}, {99999, 1, 7, 2}};
        for (int[] row : rows) {
            for (int p = 0; p < 6; p++) {
                KeysForSecond x = many(6);
                x.town(2, row[2], p);
                due("doors of " + row[0], x.drawn(row[0], row[1], 0), p == row[3] ? 0 : 1 << row[2]);
                due("how many of " + row[0], x.drawn(row[0], row[1], 1), p == row[3] ? 0 : 1);
            }
        }
    }

    @Says("DAYS by a SEED of n TRIES (0 .. 60)")
    static void promise31_noneAndSixtyTries() {
        KeysForSecond x = many(6);
        due("59", x.drawn(4, 59, 0), 251);
        due("59, how many", x.drawn(4, 59, 1), 46);
        due("60", x.drawn(4, 60, 0), 255);
        due("60, how many", x.drawn(4, 60, 1), 47);
        due("0", x.drawn(4, 0, 0), 0);
        due("0, how many", x.drawn(4, 0, 1), 0);
        x.twist(5);
        x.put(4, 0, 5);
        x.twist(4);
        due("0, one has a second already", x.drawn(4, 0, 0), 32);
        due("0, but not by lots", x.drawn(4, 0, 1), 0);
    }

    @Says("by who is numbered LOT modulo 6, if there is one (no MINUTE passes).")
    static void promise31_ifThereIsOne() {
        due("nobody", many(0).drawn(0, 60, 0), 0);
        due("nobody, how many", many(0).drawn(0, 60, 1), 0);
        due("one", many(1).drawn(0, 60, 0), 0);
        due("one, how many", many(1).drawn(0, 60, 1), 0);
        due("two", many(2).drawn(0, 60, 0), 144);
        due("two, how many", many(2).drawn(0, 60, 1), 6);
        due("five", many(5).drawn(0, 12, 0), 168);
        due("five, how many", many(5).drawn(0, 12, 1), 3);
    }

    @Says("if there is one (no MINUTE passes).")
    static void promise31_noMidnight() {
        for (int minute : new int[] {0, 19, 9999}) {
            KeysForSecond x = many(6);
            x.town(0, 0, minute);
            due("in " + minute, x.drawn(4, 60, 0), 255);
            due("it stays", x.count(1), minute);
        }
    }

    @Says("What is asked changes nothing, but where it is told.")
    static void promise31_askedChangesNothing() {
        asked("drawn", 0, 0, 0);
        asked("drawn", 99999, 60, 0);
        asked("drawn", 99999, 60, 1);
    }

    // ---- 32: odds

    private static void odds(KeysForSecond x, int seed, int seeds, int least, int above, int below) {
        String what = seeds + " from " + seed + ", " + least + " or more: ";
        due(what + "above", x.odds(seed, seeds, least, 0), above);
        due(what + "below", x.odds(seed, seeds, least, 1), below);
    }

    @Says("NO: none such.")
    static void promise32_noneSuch() {
        for (int seed : new int[] {-1, 100000, MIN, MAX}) {
            refused(NO, "odds", seed, 1, 0, 0);
        }
        for (int seeds : new int[] {0, -1, 41, MIN, MAX}) {
            refused(NO, "odds", 0, seeds, 0, 0);
        }
        for (int least : new int[] {-1, 9, MIN, MAX}) {
            refused(NO, "odds", 0, 1, least, 0);
        }
        for (int part : new int[] {-1, 2, MIN, MAX}) {
            refused(NO, "odds", 0, 1, 0, part);
        }
    }

    @Says("By how many of so many (1 .. 40) seeds, SEED and each 1 more")
    static void promise32_oneAndFortySeeds() {
        KeysForSecond x = many(6);
        odds(x, 99999, 1, 5, 1, 1);
        odds(x, 0, 1, 6, 1, 1);
        odds(x, 0, 39, 5, 5, 13);
        odds(x, 0, 40, 5, 2, 5);
        odds(x, 0, 40, 6, 1, 20);
        odds(x, 0, 40, 4, 7, 8);
        odds(x, 0, 8, 5, 1, 4);
    }

    @Says("(they may pass 99999)")
    static void promise32_past99999() {
        KeysForSecond x = many(6);
        odds(x, 99999, 2, 5, 1, 1);
        odds(x, 99999, 39, 5, 22, 39);
        odds(x, 99999, 40, 5, 11, 20);
    }

    @Says("of 16 TRIES")
    static void promise32_sixteenTries() {
        KeysForSecond x = many(6);
        due("15", Integer.bitCount(x.drawn(5, 15, 0)), 3);
        due("17", Integer.bitCount(x.drawn(5, 17, 0)), 5);
        odds(x, 5, 1, 4, 1, 1);
        odds(x, 5, 1, 5, 0, 1);
    }

    @Says("least (0 .. 8) or more DOORS have a SECOND then")
    static void promise32_leastFrom0To8() {
        KeysForSecond x = many(6);
        odds(x, 0, 40, 0, 1, 1);
        odds(x, 0, 40, 7, 0, 1);
        odds(x, 0, 40, 8, 0, 1);
        for (int d = 0; d < 8; d++) {
            x.town(2, d, 0);
        }
        int[] above = {1, 1, 1, 1, 1, 1, 37, 23, 1};
        int[] below = {1, 1, 1, 1, 1, 1, 40, 40, 8};
        for (int least = 0; least <= 8; least++) {
            odds(x, 0, 40, least, above[least], below[least]);
        }
    }

    @Says("part 0 above, 1 below the line, in lowest terms.")
    static void promise32_ofNobodyAndTwo() {
        odds(many(0), 0, 40, 0, 1, 1);
        odds(many(0), 0, 40, 1, 0, 1);
        odds(many(1), 99999, 40, 1, 0, 1);
        odds(many(2), 0, 40, 1, 7, 20);
        odds(many(2), 0, 40, 2, 1, 10);
    }

    @Says("What is asked changes nothing, but where it is told.")
    static void promise32_askedChangesNothing() {
        asked("odds", 0, 40, 8, 0);
        asked("odds", 99999, 40, 0, 1);
    }

    // ---- 33: image

    @Says("AN IMAGE is kept: how many of PEOPLE.")
    static void promise33_nobodyAndAll() {
        KeysForSecond x = new KeysForSecond();
        for (int p = 0; p <= 6; p++) {
            due("image", x.image(), p);
            due("back", x.back(), p);
            x.citizen(50, 7);
        }
        due("six still", x.image(), 6);
    }

    @Says("AN IMAGE is kept: how many of PEOPLE.")
    static void promise33_theLastOneIsKept() {
        KeysForSecond x = many(2);
        x.image();
        x.town(0, 0, 7);
        x.citizen(0, 0);
        due("another image", x.image(), 3);
        x.town(0, 0, 9);
        due("back to it", x.back(), 3);
        due("its minute", x.count(1), 7);
        x.town(0, 0, 8);
        x.minute();
        x.back();
        due("nothing later is in it", x.count(1), 7);
    }

    @Says("AN IMAGE keeps all of DOORS, where all PEOPLE are, EGGS, CAME, how many there are, MINUTE, THE LAW.")
    static void promise33_anImageChangesNothing() {
        KeysForSecond x = rich();
        x.image();
        KeysForSecond y = rich();
        for (int what = 0; what < 6; what++) {
            due("count " + what, x.count(what), y.count(what));
        }
        for (int d = 0; d < 8; d++) {
            for (int what = 0; what < 4; what++) {
                due("door " + d, x.door(d, what), y.door(d, what));
            }
        }
        for (int p = 0; p < 6; p++) {
            for (int what = 0; what <= 8; what++) {
                due("told of " + p, x.told(p, what), y.told(p, what));
            }
        }
        for (int s = 0; s < 4; s++) {
            due("sheet " + s, x.judge(s, 0), y.judge(s, 0));
        }
    }

    // ---- 34: back

    @Says("STATE: there is none.")
    static void promise34_thereIsNone() {
        due("of a new one", new KeysForSecond().back(), -3);
        refusedIn(() -> {
            KeysForSecond x = many(3);
            x.town(0, 0, 33);
            x.town(1, 3, 44);
            x.town(2, 3, 0);
            x.film(0, 0, 5);
            text(x, "tries 1;pays 3;goes 0;");
            x.force(1);
            tape(x, "tries 3;pays 4;goe");
            return x;
        }, -3, "back");
    }

    @Says("PEOPLE that came since are none: how many there are.")
    static void promise34_thoseSinceAreNone() {
        KeysForSecond x = new KeysForSecond();
        x.image();
        for (int p = 0; p < 6; p++) {
            x.citizen(50, 700);
        }
        x.twist(0);
        x.twist(5);
        due("nobody", x.back(), 0);
        due("nobody", x.count(0), 0);
        for (int p = 0; p < 6; p++) {
            due("none " + p, x.told(p, 0), -5);
        }
        due("nobody at 7", x.door(7, 3), 0);
        due("nobody first", x.door(7, 0), -1);
        due("nobody second", x.door(7, 1), -1);
        due("behind", x.door(7, 2), 10);
        due("numbers from 0 on", x.citizen(0, 0), 0);
        for (int p = 1; p < 6; p++) {
            due("room for six", x.citizen(0, 0), p);
        }
        due("and no more", x.citizen(0, 0), -4);
    }

    @Says("All that it keeps is as in THE IMAGE")
    static void promise34_allThatItKeeps() {
        KeysForSecond x = people(50, 730, 50, 740);
        text(x, "tries 1;pays 1;goes 0;");
        x.force(1);
        x.twist(0);
        x.twist(1);
        x.town(0, 0, 9999);
        x.image();
        for (int again = 0; again < 2; again++) {
            x.force(0);
            x.town(0, 0, 0);
            x.twist(0);
            x.twist(1);
            x.town(2, 7, -1);
            x.town(1, 7, 99);
            x.town(1, 0, 0);
            x.put(0, 0, 0);
            x.put(0, 1, 0);
            x.town(2, 0, 1);
            due("two", x.back(), 2);
            due("law", x.count(4), 1);
            due("minute", x.count(1), 9999);
            due("seconds", x.count(2), 1);
            due("first", x.door(7, 0), 1);
            due("second", x.door(7, 1), 1);
            due("behind 7", x.door(7, 2), 0);
            due("behind 0", x.door(0, 2), 10);
            due("first of 0", x.door(0, 0), -1);
            due("at 7", x.door(7, 3), 3);
            due("eggs of 0", x.told(0, 1), 30);
            due("eggs of 1", x.told(1, 1), 50);
            due("came of 0", x.told(0, 2), 0);
            due("came of 1", x.told(1, 2), 1);
        }
    }

    @Says("AN IMAGE keeps all of DOORS, where all PEOPLE are, EGGS, CAME, how many there are, MINUTE, THE LAW.")
    static void promise34_nothingElseIsKept() {
        KeysForSecond x = many(1);
        x.image();
        text(x, "tries 1;pays 3;goes 1;");
        tape(x, "ab");
        row(x, 0, 2, 5, 6);
        x.force(1);
        x.back();
        due("texts stay", x.count(3), 2);
        due("the law is that of the image", x.count(4), 0);
        due("the tape stays", x.count(5), 2);
        due("sheets stay", x.cell(0, 1, 6), 1);
        due("the text is there still", x.force(1), 0);
        due("as it says", x.asks(1, 0), 3);
    }

    // ---- 35: sheet

    @Says("BAD: SHEET, sort, n above 40; -14.")
    static void promise35_badSheetsSortsAndN() {
        for (int s : new int[] {-1, 4, MIN, MAX}) {
            refused(-2, "sheet", s, 0, 1);
            refused(-2, "sheet", s, -1, 1);
        }
        for (int sort : new int[] {-2, 3, MIN, MAX}) {
            refused(-2, "sheet", 0, sort, 1);
        }
        for (int sort = 0; sort < 3; sort++) {
            refused(-2, "sheet", 0, sort, 41);
            refused(-2, "sheet", 3, sort, MAX);
        }
    }

    @Says("-14 a size below 0.")
    static void promise35_aSizeBelow0() {
        for (int sort = 0; sort < 3; sort++) {
            refused(-14, "sheet", sort, sort, -1);
            refused(-14, "sheet", 3, sort, MIN);
        }
    }

    @Says("BAD: SHEET, sort, n above 40; -14.")
    static void promise35_badAheadOfASizeBelow0() {
        refused(-2, "sheet", 4, 0, -1);
        refused(-2, "sheet", -1, 2, MIN);
        refused(-2, "sheet", 0, 3, -1);
        refused(-2, "sheet", 0, -2, MIN);
    }

    @Says("of sort 0 bytes, 1 shorts, 2 ints, 40 at most.")
    static void promise35_noneAndForty() {
        for (int s = 0; s < 4; s++) {
            for (int sort = 0; sort < 3; sort++) {
                for (int n : new int[] {0, 1, 39, 40}) {
                    KeysForSecond x = new KeysForSecond();
                    due("sheet", x.sheet(s, sort, n), 1);
                    due("no number ahead", x.cell(s, -1, 1), -12);
                    due("the last one of " + n, x.cell(s, n - 1, 1), n == 0 ? -12 : 1);
                    due("none behind", x.cell(s, n, 1), -12);
                    for (int other = 0; other < 3; other++) {
                        due("of its sort", x.peopleBy(s, other, 0, 0), other == sort ? 0 : -13);
                    }
                    for (int other = 0; other < 4; other++) {
                        due("others are missing", x.copy(other, 0, s, 0, 0), other == s ? 0 : -11);
                    }
                }
            }
        }
    }

    @Says("or missing (sort -1: n does not matter): 1.")
    static void promise35_missingWhateverN() {
        for (int n : new int[] {0, 1, 40, 41, -1, MIN, MAX}) {
            KeysForSecond x = many(1);
            due("missing already", x.sheet(0, -1, n), 1);
            due("it is", x.cell(0, 0, 0), -11);
            row(x, 0, 2, 7, 7);
            due("missing", x.sheet(0, -1, n), 1);
            due("it is", x.cell(0, 0, 0), -11);
            due("and tells nothing", x.judge(0, 0), -11);
        }
    }

    @Says("A SHEET becomes a row of n of a sort, all 0")
    static void promise35_all0Again() {
        KeysForSecond x = many(1);
        row(x, 0, 2, times(40, 7));
        x.sheet(0, 2, 3);
        values("shorter", x, 0, 2, 0, 0, 0);
        row(x, 0, 2, times(40, 7));
        x.sheet(0, 2, 1);
        x.sheet(0, 2, 40);
        values("longer again", x, 0, 2, times(40, 0));
        row(x, 0, 2, times(40, 7));
        x.sheet(0, -1, 0);
        x.sheet(0, 0, 40);
        values("once missing", x, 0, 0, times(40, 0));
        row(x, 0, 1, times(20, 7));
        x.film(0, 0, 0);
        x.sheet(0, 1, 20);
        values("once filmed", x, 0, 1, times(20, 0));
    }

    // ---- 36: cell

    @Says("BAD: SHEET; -11; -12.")
    static void promise36_refusalsInTheirOrder() {
        for (int s : new int[] {-1, 4, MIN, MAX}) {
            refused(-2, "cell", s, 0, 1);
            refused(-2, "cell", s, -1, 1);
        }
        for (int i : new int[] {0, -1, 40, MIN, MAX}) {
            refused(-11, "cell", 3, i, 1);
        }
        for (int i : new int[] {-1, 5, 39, 40, MIN, MAX}) {
            for (int s = 0; s < 3; s++) {
                refused(-12, "cell", s, i, 1);
            }
        }
    }

    @Says("Number i of a SHEET becomes v")
    static void promise36_theFirstAndTheLast() {
        for (int sort = 0; sort < 3; sort++) {
            KeysForSecond x = many(1);
            row(x, 1, sort, 5, 5, 5, 5);
            due("the first", x.cell(1, 0, 8), 1);
            due("the last", x.cell(1, 3, 9), 1);
            values("the others stay", x, 1, sort, 8, 5, 5, 9);
            x.sheet(1, sort, 40);
            due("the last of 40", x.cell(1, 39, 9), 1);
            due("it is", value(x, 1, 39, sort), 9);
            due("the one ahead", value(x, 1, 38, sort), 0);
        }
    }

    private static void cell(int sort, int v, int want) {
        KeysForSecond x = many(1);
        row(x, 0, sort, v);
        due("sort " + sort + " of " + v, value(x, 0, 0, sort), want);
    }

    @Says("(of bytes, shorts its lowest 8, 16 bits)")
    static void promise36_lowestBits() {
        for (int v : new int[] {0, 1, 99}) {
            cell(0, v, v);
            cell(0, v + 256, v);
            cell(0, v - 256, v);
            cell(0, v + 65536, v);
            cell(0, MIN + v, v);
            cell(1, v, v);
            cell(1, v + 65536, v);
            cell(1, v - 65536, v);
            cell(1, v + 256, -1);
            cell(1, MIN + v, v);
            cell(2, v, v);
            cell(2, v + 256, -1);
            cell(2, v + 65536, -1);
            cell(2, v - 65536, -1);
            cell(2, MIN + v, -1);
        }
        for (int sort = 0; sort < 3; sort++) {
            cell(sort, -1, -1);
            cell(sort, MAX, -1);
            cell(sort, 100, -1);
        }
    }

    /** The one who comes by 0 and v as of citizen(), told as door and eggs, or -1. */
    private static int comes(int sort, int v) {
        KeysForSecond x = new KeysForSecond();
        row(x, 0, sort, 0, v);
        return x.peopleBy(0, sort, 0, 1) == 1 ? 100 * x.told(0, 0) + x.told(0, 1) : -1;
    }

    @Says("(of bytes, shorts its lowest 8, 16 bits)")
    static void promise36_largestBytesAndShorts() {
        due("a byte of 127", comes(0, 127), 127);
        due("a byte of 128 is below 0, as Java's are", comes(0, 128), -1);
        due("a byte of 255 is -1", comes(0, 255), -1);
        due("a byte of 256", comes(0, 256), 0);
        due("a byte of 799 is its lowest bits", comes(0, 799), 31);
        due("a byte of -129", comes(0, -129), 127);
        due("a short of 128", comes(1, 128), 128);
        due("a short of 799", comes(1, 799), 799);
        due("a short of 65535 is -1", comes(1, 65535), -1);
        due("a short of 65536", comes(1, 65536), 0);
        due("an int of 799", comes(2, 799), 799);
        due("an int of 65536", comes(2, 65536), -1);
    }

    // ---- 37: copy

    @Says("BAD: SHEETS; -11; -13: unlike sorts; -12 (n below 0, too).")
    static void promise37_badSheets() {
        for (int s : new int[] {-1, 4, MIN, MAX}) {
            refused(-2, "copy", s, 0, 0, 0, 1);
            refused(-2, "copy", 0, 0, s, 0, 1);
            refused(-2, "copy", s, -1, 3, -1, -1);
            refused(-2, "copy", 3, -1, s, -1, -1);
        }
    }

    @Says("BAD: SHEETS; -11; -13: unlike sorts; -12 (n below 0, too).")
    static void promise37_missingAheadOfSortsAndPlaces() {
        refused(-11, "copy", 3, 0, 0, 0, 1);
        refused(-11, "copy", 0, 0, 3, 0, 1);
        refused(-11, "copy", 3, 0, 3, 0, 0);
        refused(-11, "copy", 3, 9, 2, 9, -1);
        refused(-11, "copy", 1, 9, 3, 9, -1);
    }

    @Says("-13: unlike sorts;")
    static void promise37_unlikeSortsAheadOfPlaces() {
        for (int s = 0; s < 3; s++) {
            for (int other = 0; other < 3; other++) {
                if (s != other) {
                    refused(-13, "copy", s, 0, other, 0, 1);
                    refused(-13, "copy", s, 0, other, 0, 0);
                    refused(-13, "copy", s, 9, other, -1, -1);
                }
            }
        }
    }

    @Says("-12 (n below 0, too).")
    static void promise37_placesOutside() {
        int[][] rows = {{-1, 0, 1}, {0, -1, 1}, {5, 0, 1}, {0, 5, 1}, {4, 0, 2}, {0, 4, 2}, {0, 0, 6}, {0, 1, 5}, {1, 0, 5},
            {0, 0, -1}, {1, 1, -1}, {0, 0, MIN}, {0, 0, MAX}, {1, 0, MAX}, {0, 1, MAX}, {MAX, 0, 1}, {0, MAX, 1},
            {MIN, 0, 1}, {0, MIN, 1}, {MAX, MAX, MAX}, {MIN, MIN, MIN}, {5, 5, -1}, {MAX, 0, 0}, {-1, 0, 0}, {0, -1, 0},
            {6, 0, 0}, {0, 6, 0}};
        for (int[] row : rows) {
            for (int s = 0; s < 3; s++) {
                refused(-12, "copy", s, row[0], s, row[1], row[2]);
            }
        }
    }

    @Says("come to another one's (or its own) place j (as they were): n.")
    static void promise37_noneAllAndTheLast() {
        KeysForSecond x = many(1);
        row(x, 0, 1, 1, 2, 3);
        row(x, 1, 1, 7, 7, 7, 7);
        due("none", x.copy(0, 0, 1, 0, 0), 0);
        due("none from its end to an end", x.copy(0, 3, 1, 4, 0), 0);
        values("nothing came", x, 1, 1, 7, 7, 7, 7);
        due("the last to the last", x.copy(0, 2, 1, 3, 1), 1);
        values("one came", x, 1, 1, 7, 7, 7, 3);
        due("all", x.copy(0, 0, 1, 0, 3), 3);
        values("three came", x, 1, 1, 1, 2, 3, 3);
        values("they stay where they were", x, 0, 1, 1, 2, 3);
        x.sheet(0, 0, 0);
        due("none of none", x.copy(0, 0, 0, 0, 0), 0);
        due("one of none", x.copy(0, 0, 0, 0, 1), -12);
        row(x, 0, 2, times(40, 6));
        x.sheet(1, 2, 40);
        due("forty", x.copy(0, 0, 1, 0, 40), 40);
        values("forty came", x, 1, 2, times(40, 6));
    }

    @Says("come to another one's (or its own) place j (as they were): n.")
    static void promise37_asTheyWere() {
        for (int sort = 0; sort < 3; sort++) {
            KeysForSecond x = many(1);
            row(x, 0, sort, 1, 2, 3, 4, 5);
            due("ahead", x.copy(0, 0, 0, 1, 4), 4);
            values("ahead", x, 0, sort, 1, 1, 2, 3, 4);
            row(x, 0, sort, 1, 2, 3, 4, 5);
            due("back", x.copy(0, 1, 0, 0, 4), 4);
            values("back", x, 0, sort, 2, 3, 4, 5, 5);
            due("on the same place", x.copy(0, 0, 0, 0, 5), 5);
            values("on the same place", x, 0, sort, 2, 3, 4, 5, 5);
        }
    }

    // ---- 38: peopleBy

    @Says("BAD: SHEET, sort, n; -11; -13; -12: what stood ahead came.")
    static void promise38_badNumbersAheadOfAll() {
        for (int s : new int[] {-1, 4, MIN, MAX}) {
            refused(-2, "peopleBy", s, 0, 0, 1);
        }
        for (int sort : new int[] {-1, 3, MIN, MAX}) {
            refused(-2, "peopleBy", 0, sort, 0, 1);
            refused(-2, "peopleBy", 3, sort, -1, 1);
        }
        for (int n : new int[] {-1, 7, MIN, MAX}) {
            refused(-2, "peopleBy", 0, 0, 0, n);
            refused(-2, "peopleBy", 0, 1, 0, n);
            refused(-2, "peopleBy", 3, 0, -1, n);
        }
    }

    @Says("BAD: SHEET, sort, n; -11; -13; -12: what stood ahead came.")
    static void promise38_missingAheadOfSortAndPlace() {
        for (int sort = 0; sort < 3; sort++) {
            refused(-11, "peopleBy", 3, sort, 0, 1);
            refused(-11, "peopleBy", 3, sort, -1, 6);
            refused(-11, "peopleBy", 3, sort, 0, 0);
        }
    }

    @Says("BAD: SHEET, sort, n; -11; -13; -12: what stood ahead came.")
    static void promise38_anotherSortAheadOfPlace() {
        for (int s = 0; s < 3; s++) {
            for (int sort = 0; sort < 3; sort++) {
                if (s != sort) {
                    refused(-13, "peopleBy", s, sort, 0, 1);
                    refused(-13, "peopleBy", s, sort, -1, 6);
                    refused(-13, "peopleBy", s, sort, MAX, 0);
                }
            }
        }
    }

    @Says("-12: what stood ahead came.")
    static void promise38_placesOutside() {
        for (int from : new int[] {-1, -2, 4, 5, 6, 40, MIN, MAX, MAX - 1}) {
            for (int s = 0; s < 3; s++) {
                refused(-12, "peopleBy", s, s, from, 1);
            }
        }
        KeysForSecond x = new KeysForSecond();
        row(x, 0, 2, 50, 701, 51, 702, 52);
        due("the third has no second number", x.peopleBy(0, 2, 0, 3), -12);
        due("two came", x.count(0), 2);
        due("the first one", x.told(0, 1), 1);
        due("the second one", x.told(1, 1), 2);
        due("one in the midst", x.peopleBy(0, 2, 2, 1), 1);
        due("from 3 on, the first is none", x.peopleBy(0, 2, 3, 1), 0);
        due("from 4 on", x.peopleBy(0, 2, 4, 1), -12);
        x.sheet(1, 0, 0);
        due("an empty row", x.peopleBy(1, 0, 0, 1), -12);
        due("three", x.count(0), 3);
    }

    @Says("n of them (0 .. 6): how many came")
    static void promise38_noneAndSix() {
        KeysForSecond x = new KeysForSecond();
        row(x, 0, 1, 0, 1, 10, 102, 20, 203, 30, 304, 40, 405, 50, 799);
        due("none", x.peopleBy(0, 1, 0, 0), 0);
        due("nobody is there", x.count(0), 0);
        due("six", x.peopleBy(0, 1, 0, 6), 6);
        int[] eggs = {1, 2, 3, 4, 5, 99};
        for (int p = 0; p < 6; p++) {
            due("kind", x.told(p, 3), p);
            due("door", x.told(p, 0), p == 5 ? 7 : p);
            due("eggs", x.told(p, 1), eggs[p]);
            due("came", x.told(p, 2), 0);
        }
    }

    @Says("n of them (0 .. 6): how many came")
    static void promise38_noneLooksAtNoPlace() {
        KeysForSecond x = new KeysForSecond();
        row(x, 0, 1, 0, 1);
        for (int from : new int[] {0, 1, 2, -1, 40, MIN, MAX}) {
            due("none from " + from, x.peopleBy(0, 1, from, 0), 0);
        }
        due("nobody", x.count(0), 0);
    }

    @Says("from a place on, two by two (as of citizen())")
    static void promise38_theFirstAndTheLastPlace() {
        KeysForSecond x = new KeysForSecond();
        x.sheet(0, 2, 40);
        x.cell(0, 38, 59);
        x.cell(0, 39, 799);
        due("the last two", x.peopleBy(0, 2, 38, 1), 1);
        due("kind", x.told(0, 3), 5);
        due("more", x.told(0, 4), 9);
        due("door", x.told(0, 0), 7);
        due("eggs", x.told(0, 1), 99);
        due("the first two", x.peopleBy(0, 2, 0, 1), 1);
        due("kind", x.told(1, 3), 0);
        due("the last number alone", x.peopleBy(0, 2, 39, 1), -12);
        due("two and none", x.peopleBy(0, 2, 38, 2), -12);
        due("one came ahead of it", x.count(0), 3);
    }

    @Says("(others are left out)")
    static void promise38_othersAreLeftOut() {
        KeysForSecond x = new KeysForSecond();
        row(x, 0, 2, 60, 0, -1, 0, 0, 800, 0, -1, 59, 799, 0, 0);
        due("two of six", x.peopleBy(0, 2, 0, 6), 2);
        due("two", x.count(0), 2);
        due("the first that fits", x.told(0, 3), 5);
        due("none of four", x.peopleBy(0, 2, 0, 4), 0);
        due("two still", x.count(0), 2);
    }

    @Says("(others are left out)")
    static void promise38_thoseWithoutRoomAreLeftOut() {
        KeysForSecond x = many(5);
        row(x, 0, 2, 60, 0, 10, 5, 20, 6);
        due("one of three", x.peopleBy(0, 2, 0, 3), 1);
        due("the one that came", x.told(5, 3), 1);
        due("six", x.count(0), 6);
        due("none of two", x.peopleBy(0, 2, 2, 2), 0);
        due("none and outside", x.peopleBy(0, 2, 2, 3), -12);
        due("six still", x.count(0), 6);
    }

    // ---- 39: taken

    @Says("BAD: kind; -12: i; -11: none such; -13.")
    static void promise39_badKindAheadOfAll() {
        for (int kind : new int[] {-1, 7, MIN, MAX}) {
            refused(-2, "taken", 0, kind);
            refused(-2, "taken", 6, kind);
            refused(-2, "taken", 14, kind);
            due("nobody is there", new KeysForSecond().taken(0, kind), -2);
        }
    }

    @Says("-12: i; -11: none such; -13.")
    static void promise39_placesOutside() {
        for (int i : new int[] {-1, 14, MIN, MAX}) {
            for (int kind = 0; kind <= 6; kind++) {
                refused(-12, "taken", i, kind);
            }
        }
        due("nobody is there", new KeysForSecond().taken(-1, 0), -12);
    }

    @Says("-11: none such; -13.")
    static void promise39_noneSuchAheadOfAnotherKind() {
        for (int there = 0; there <= 6; there++) {
            for (int i = 0; i < 6; i++) {
                for (int kind = 0; kind <= 6; kind++) {
                    boolean fits = kind == 0 || kind == 5;
                    due(i + " of " + there + " as " + kind, many(there).taken(i, kind), i >= there ? -11 : fits ? i : -13);
                }
            }
        }
    }

    @Says("taken for 0 .. 5 one of that KIND (also of one that is one): the number;")
    static void promise39_alsoOfOneThatIsOne() {
        int[][] fits = {{0}, {0, 1}, {0, 2}, {0, 1, 3}, {0, 2, 4}, {0, 5}};
        for (int kind = 0; kind < 6; kind++) {
            KeysForSecond x = people(50, 0, 10 * kind, 0, 50, 0);
            for (int as = 0; as <= 6; as++) {
                boolean is = false;
                for (int fit : fits[kind]) {
                    is |= fit == as;
                }
                due("kind " + kind + " as " + as, x.taken(1, as), is ? 1 : -13);
            }
        }
    }

    @Says("What lies at place i: 0 .. 5 PEOPLE, 6 .. 13 DOORS")
    static void promise39_theFirstAndTheLastDoor() {
        KeysForSecond x = new KeysForSecond();
        x.town(1, 0, 0);
        x.town(1, 7, 99);
        due("door 0", x.taken(6, 6), 0);
        due("door 1", x.taken(7, 6), 10);
        due("door 7", x.taken(13, 6), 99);
        for (int i = 6; i <= 13; i++) {
            for (int kind = 0; kind < 6; kind++) {
                due("a door as one of kind " + kind, x.taken(i, kind), -13);
            }
        }
    }

    @Says("6 a DOOR: what is BEHIND.")
    static void promise39_peopleAreNoDoors() {
        KeysForSecond x = many(6);
        for (int i = 0; i < 6; i++) {
            due("one as a door", x.taken(i, 6), -13);
        }
        for (int d = 0; d < 8; d++) {
            x.town(1, d, 90 + d);
            due("door " + d, x.taken(6 + d, 6), 90 + d);
        }
    }

    @Says("What is asked changes nothing, but where it is told.")
    static void promise39_askedChangesNothing() {
        asked("taken", 0, 0);
        asked("taken", 5, 0);
        asked("taken", 6, 6);
        asked("taken", 13, 6);
    }
}
