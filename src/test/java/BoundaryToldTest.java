import java.io.IOException;

/** The boundary sentences of promises 23 to 30: told minutes. */
public final class BoundaryToldTest extends BoundaryKit {
    public static void main(String[] args) throws IOException {
        run(BoundaryToldTest.class, 23, 30);
    }

    /** Two rude ones at door 0: behind each minute 0 has 31 and 1 has 39. */
    private static KeysForSecond two() {
        return people(50, 30, 50, 30);
    }

    /** 0 is rude and stays the first of door 3, alone: it has 7 eggs behind each minute. */
    private static KeysForSecond alone() {
        return people(50, 307);
    }

    /** 0 is the first of door 7, where it stays; 1 comes in there and pays; nothing is behind any door. */
    private static KeysForSecond guest(int pays, int kindMoreOf1, int eggsOf1) {
        KeysForSecond x = ruled("1", String.valueOf(pays), "0", 50, 700, kindMoreOf1, 700 + eggsOf1);
        behindAll(x, 0);
        x.town(2, 7, 0);
        return x;
    }

    /** What is refused of a sheet and of one, whatever else is asked; rich() has six people, sheets of five numbers. */
    private static void refusesSheets(String name, int... more) {
        for (int s : new int[] {-1, 4, MIN, MAX}) {
            refused(-2, name, with(s, 0, more));
            refused(-2, name, with(s, 6, more));
        }
        refused(-11, name, with(3, 0, more));
        refused(-11, name, with(3, 6, more));
        for (int p : new int[] {-1, 6, MIN, MAX}) {
            refused(-5, name, with(0, p, more));
            refused(-5, name, with(2, p, more));
        }
        for (int n : new int[] {21, 40}) {
            for (int sort = 0; sort < 3; sort++) {
                KeysForSecond x = two();
                row(x, 1, sort, times(n, 31));
                due(name + " of " + n, call(x, name, with(1, 0, more)), -2);
                due(name + " of " + n + " and none such", call(x, name, with(1, 2, more)), -2);
            }
        }
        KeysForSecond nobody = new KeysForSecond();
        nobody.sheet(0, 0, 0);
        due(name + ", nobody is there", call(nobody, name, with(0, 0, more)), -5);
        due(name + ", nobody is there and no row", call(nobody, name, with(1, 0, more)), -11);
    }

    private static int[] with(int s, int p, int... more) {
        int[] a = new int[2 + more.length];
        a[0] = s;
        a[1] = p;
        System.arraycopy(more, 0, a, 2, more.length);
        return a;
    }

    // ---- 23: judge

    @Says("BAD: SHEET; -11; BAD: it tells more than 20; -5: none such.")
    static void promise23_refusalsInTheirOrder() {
        refusesSheets("judge");
    }

    @Says("A SHEET tells EGGS of one behind 1, 2, .. MINUTES (20 at most):")
    static void promise23_twentyAndNone() {
        for (int sort = 0; sort < 3; sort++) {
            KeysForSecond x = alone();
            row(x, 3, sort, times(20, 7));
            due("20 numbers", x.judge(3, 0), -1);
            x.cell(3, 19, 8);
            due("the last one", x.judge(3, 0), 19);
            row(x, 3, sort, times(19, 7));
            due("19 numbers", x.judge(3, 0), -1);
            x.sheet(3, sort, 0);
            due("no number", x.judge(3, 0), -1);
            row(x, 3, sort, 7);
            due("one number", x.judge(3, 0), -1);
        }
    }

    @Says("the first number (from 0) that is otherwise; -1: none.")
    static void promise23_theFirstOfSeveral() {
        KeysForSecond x = alone();
        for (int i = 0; i < 20; i++) {
            row(x, 0, 0, times(20, 7));
            x.cell(0, i, 6);
            due("number " + i, x.judge(0, 0), i);
            x.cell(0, 19, 6);
            due("number " + i + " ahead of 19", x.judge(0, 0), i);
        }
        row(x, 0, 0, times(20, 8));
        due("all are otherwise", x.judge(0, 0), 0);
    }

    @Says("(a -1 that is an answer comes behind the refusal of a number)")
    static void promise23_aRefusalAheadOfNone() {
        KeysForSecond x = alone();
        row(x, 0, 0, times(20, 7));
        row(x, 1, 0, times(21, 7));
        due("none", x.judge(0, 0), -1);
        due("none such", x.judge(0, 1), -5);
        due("more than 20", x.judge(1, 0), -2);
        due("missing", x.judge(2, 0), -11);
    }

    @Says("A SHEET tells EGGS of one behind 1, 2, .. MINUTES")
    static void promise23_fromTheNextMinuteOn() {
        KeysForSecond x = guest(1, 0, 50);
        row(x, 0, 2, 50, 49);
        due("not from now on", x.judge(0, 1), 0);
        row(x, 0, 2, 49, 48, 47);
        due("behind 1, 2, 3", x.judge(0, 1), -1);
        due("in thought", x.told(0, 1), 0);
    }

    @Says("the first number (from 0) that is otherwise; -1: none.")
    static void promise23_noNumberIsCut() {
        KeysForSecond x = alone();
        for (int v : new int[] {7 + 256, 7 - 256, 7 + 65536, -7, MIN + 7}) {
            row(x, 0, 2, v);
            due("an int of " + v, x.judge(0, 0), 0);
        }
        for (int v : new int[] {7 + 256, 7 - 256}) {
            row(x, 0, 1, v);
            due("a short of " + v, x.judge(0, 0), 0);
            row(x, 0, 0, v);
            due("a byte of " + v, x.judge(0, 0), -1);
        }
        row(x, 0, 1, 7 + 65536);
        due("a short is cut as it comes", x.judge(0, 0), -1);
    }

    @Says("with EGGS (0 .. 99)")
    static void promise23_noneAndMostEggs() {
        KeysForSecond x = people(50, 300, 50, 499);
        row(x, 0, 0, times(20, 0));
        row(x, 1, 0, times(20, 99));
        due("none", x.judge(0, 0), -1);
        due("99", x.judge(1, 1), -1);
        due("none are not 99", x.judge(0, 1), 0);
        due("99 are not none", x.judge(1, 0), 0);
    }

    @Says("in thought it may pass 9999")
    static void promise23_past9999() {
        KeysForSecond x = two();
        x.town(0, 0, 9999);
        row(x, 0, 0, 31, 32, 32);
        due("midnight behind the first", x.judge(0, 0), -1);
        row(x, 0, 0, 31, 31, 31);
        due("as if there were none", x.judge(0, 0), 1);
        due("9999 still", x.count(1), 9999);
    }

    @Says("What is asked changes nothing, but where it is told.")
    static void promise23_askedChangesNothing() {
        asked("judge", 0, 0);
        asked("judge", 2, 5);
    }

    // ---- 24: kinds

    @Says("BAD, -11, BAD, -5 likewise; -7: sort.")
    static void promise24_refusalsInTheirOrder() {
        refusesSheets("kinds", 0);
        refusesSheets("kinds", 1);
        refusesSheets("kinds", 2);
    }

    @Says("-7: sort.")
    static void promise24_noSuchSort() {
        for (int sort : new int[] {-1, 2, MIN, MAX}) {
            refused(-7, "kinds", 0, 0, sort);
            refused(-7, "kinds", 2, 5, sort);
        }
    }

    @Says("KINDS (sort 0; bits 0 .. 5), MORE (1; bits 0 .. 9) by which, were they one's, that would be -1.")
    static void promise24_allAndNone() {
        KeysForSecond x = people(59, 307);
        x.sheet(0, 1, 0);
        due("any kind, nothing told", x.kinds(0, 0, 0), 63);
        due("any more, nothing told", x.kinds(0, 0, 1), 1023);
        row(x, 1, 1, times(20, 7));
        due("any kind", x.kinds(1, 0, 0), 63);
        due("any more", x.kinds(1, 0, 1), 1023);
        row(x, 1, 1, 7, 7, 8);
        due("no kind", x.kinds(1, 0, 0), 0);
        due("no more", x.kinds(1, 0, 1), 0);
    }

    @Says("KINDS (sort 0; bits 0 .. 5)")
    static void promise24_eachKindsBit() {
        KeysForSecond x = guest(6, 3, 50);
        int[][] rows = {{44, 1 + 2}, {41, 4}, {50, 8 + 16}, {47, 32}};
        for (int[] row : rows) {
            row(x, 0, 0, row[0]);
            due("kinds by " + row[0], x.kinds(0, 1, 0), row[1]);
        }
        row(x, 0, 0, 43);
        due("none", x.kinds(0, 1, 0), 0);
        x.town(1, 7, 5);
        row(x, 0, 0, 55);
        due("a burglar comes in and pays nothing", x.kinds(0, 1, 0), 16);
        row(x, 0, 0, 50);
        due("a banker does not come in", x.kinds(0, 1, 0), 8);
        due("its kind stays", x.told(1, 3), 0);
    }

    @Says("MORE (1; bits 0 .. 9)")
    static void promise24_eachMoresBit() {
        KeysForSecond x = guest(5, 23, 50);
        for (int more = 0; more <= 9; more++) {
            row(x, 0, 0, 45 - more);
            due("more " + more, x.kinds(0, 1, 1), 1 << more);
        }
        row(x, 0, 0, 46);
        due("less than 0", x.kinds(0, 1, 1), 0);
        row(x, 0, 0, 35);
        due("more than 9", x.kinds(0, 1, 1), 0);
        due("its more stays", x.told(1, 4), 3);
    }

    @Says("What is asked changes nothing, but where it is told.")
    static void promise24_askedChangesNothing() {
        asked("kinds", 0, 0, 0);
        asked("kinds", 0, 5, 1);
    }

    // ---- 25: doors

    @Says("BAD, -11, BAD, -5 likewise.")
    static void promise25_refusalsInTheirOrder() {
        refusesSheets("doors");
    }

    @Says("DOORS (bits) by which, were one AT it now, that would be -1.")
    static void promise25_allAndNone() {
        KeysForSecond x = alone();
        x.sheet(0, 2, 0);
        due("nothing told", x.doors(0, 0), 255);
        row(x, 0, 2, times(20, 7));
        due("all", x.doors(0, 0), 255);
        x.cell(0, 19, 8);
        due("none", x.doors(0, 0), 0);
    }

    @Says("DOORS (bits) by which, were one AT it now, that would be -1.")
    static void promise25_eachDoorsBit() {
        for (int d = 0; d < 8; d++) {
            KeysForSecond x = ruled("1", "1", "0", 50, 0, 0, 250);
            behindAll(x, 0);
            x.town(2, d, 0);
            x.put(0, 0, d);
            row(x, 0, 0, 49);
            due("door " + d + ", where 1 pays", x.doors(0, 1), 1 << d);
            row(x, 0, 0, 50);
            due("all others", x.doors(0, 1), 255 - (1 << d));
            due("it stays", x.told(1, 0), 2);
        }
    }

    @Says("What is asked changes nothing, but where it is told.")
    static void promise25_askedChangesNothing() {
        asked("doors", 0, 0);
        asked("doors", 2, 5);
    }

    // ---- 26: baskets

    @Says("BAD, -11, BAD, -5 likewise; -7: what.")
    static void promise26_refusalsInTheirOrder() {
        refusesSheets("baskets", 0);
        refusesSheets("baskets", 1);
        refusesSheets("baskets", 2);
    }

    @Says("-7: what.")
    static void promise26_noSuchWhat() {
        for (int what : new int[] {-1, 2, MIN, MAX}) {
            refused(-7, "baskets", 0, 0, what);
            refused(-7, "baskets", 2, 5, what);
        }
    }

    private static void baskets(KeysForSecond x, int p, int told, int many, int least) {
        row(x, 0, 2, told);
        due("how many by " + told, x.baskets(0, p, 0), many);
        due("least by " + told, x.baskets(0, p, 1), least);
    }

    @Says("EGGS (0 .. 99) by which, had one so many now, that would be -1: how many (what 0), the least (1; -1: none).")
    static void promise26_noneAndMostEggs() {
        KeysForSecond x = alone();
        baskets(x, 0, 0, 1, 0);
        baskets(x, 0, 1, 1, 1);
        baskets(x, 0, 98, 1, 98);
        baskets(x, 0, 99, 1, 99);
        baskets(x, 0, 100, 0, -1);
        baskets(x, 0, -1, 0, -1);
        baskets(x, 0, MIN, 0, -1);
        due("they stay", x.told(0, 1), 7);
    }

    @Says("how many (what 0), the least (1; -1: none).")
    static void promise26_nothingTold() {
        KeysForSecond x = alone();
        x.sheet(0, 2, 0);
        due("any", x.baskets(0, 0, 0), 100);
        due("0 at least", x.baskets(0, 0, 1), 0);
    }

    @Says("(a -1 that is an answer comes behind the refusal of a number)")
    static void promise26_aRefusalAheadOfNone() {
        KeysForSecond x = alone();
        row(x, 0, 2, 100);
        due("none", x.baskets(0, 0, 1), -1);
        due("what 2", x.baskets(0, 0, 2), -7);
        due("none such", x.baskets(0, 1, 1), -5);
        due("missing", x.baskets(1, 0, 1), -11);
    }

    @Says("EGGS (0 .. 99) by which, had one so many now")
    static void promise26_severalAndTheLeastOfThem() {
        KeysForSecond x = guest(3, 0, 50);
        baskets(x, 1, 0, 4, 0);
        baskets(x, 1, 1, 1, 4);
        baskets(x, 1, 96, 1, 99);
        baskets(x, 1, 97, 0, -1);
        x.town(1, 7, 9);
        baskets(x, 1, 8, 0, -1);
        baskets(x, 1, 9, 4, 0);
        baskets(x, 1, 98, 1, 92);
        baskets(x, 1, 99, 7, 93);
    }

    @Says("What is asked changes nothing, but where it is told.")
    static void promise26_askedChangesNothing() {
        asked("baskets", 0, 0, 0);
        asked("baskets", 2, 5, 1);
    }

    // ---- 27: firsts

    @Says("BAD, -11, BAD, -5 likewise; -7: no such DOOR.")
    static void promise27_refusalsInTheirOrder() {
        refusesSheets("firsts", 0);
        refusesSheets("firsts", 7);
        refusesSheets("firsts", 8);
    }

    @Says("-7: no such DOOR.")
    static void promise27_noSuchDoor() {
        for (int d : new int[] {-1, 8, MIN, MAX}) {
            refused(-7, "firsts", 0, 0, d);
            refused(-7, "firsts", 2, 5, d);
        }
    }

    @Says("PEOPLE (bits 0 .. 5), and nobody (bit 6)")
    static void promise27_thoseWhoAreThereAlone() {
        for (int many = 1; many <= 6; many++) {
            KeysForSecond x = new KeysForSecond();
            for (int p = 0; p < many; p++) {
                x.citizen(50, 100 * p + 20);
            }
            x.sheet(0, 0, 0);
            for (int d : new int[] {0, 7}) {
                due(many + " at " + d, x.firsts(0, 0, d), (1 << many) - 1 + 64);
            }
            row(x, 0, 0, 21);
            due("none", x.firsts(0, 0, 7), 0);
        }
    }

    @Says("by which, were that the FIRST of a DOOR now, that would be -1.")
    static void promise27_oneselfNobodyOrAnother() {
        for (int d : new int[] {0, 7}) {
            KeysForSecond x = ruled("1", "3", "0", 0, 100 * d + 50, 0, 300, 0, 400, 0, 500, 0, 600, 0, 198);
            behindAll(x, 0);
            row(x, 0, 0, 50);
            due("oneself, nobody", x.firsts(0, 0, d), 1 + 64);
            row(x, 0, 0, 49);
            due("the last one, who has room for one", x.firsts(0, 0, d), 32);
            row(x, 0, 0, 47);
            due("1, 2, 3, 4", x.firsts(0, 0, d), 30);
            x.town(2, d, 3);
            due("whoever it is now", x.firsts(0, 0, d), 30);
            due("it stays", x.door(d, 0), 3);
        }
    }

    @Says("PEOPLE (bits 0 .. 5), and nobody (bit 6)")
    static void promise27_nobodyIsNotTheFirstOne() {
        for (int d : new int[] {0, 7}) {
            KeysForSecond x = ruled("1", "3", "0", 50, 300, 50, 400, 50, 500, 50, 600, 50, 200, 0, 100 * d + 50);
            behindAll(x, 0);
            row(x, 0, 0, 50);
            due("oneself, nobody", x.firsts(0, 5, d), 32 + 64);
            row(x, 0, 0, 47);
            due("anybody else", x.firsts(0, 5, d), 31);
            due("none is first still", x.door(d, 0), -1);
        }
    }

    @Says("What is asked changes nothing, but where it is told.")
    static void promise27_askedChangesNothing() {
        asked("firsts", 0, 0, 0);
        asked("firsts", 2, 5, 7);
    }

    // ---- 28: whose

    @Says("BAD, -11, BAD likewise.")
    static void promise28_refusalsInTheirOrder() {
        for (int s : new int[] {-1, 4, MIN, MAX}) {
            refused(-2, "whose", s);
        }
        refused(-11, "whose", 3);
        due("nobody is there, missing", new KeysForSecond().whose(0), -11);
        for (int n : new int[] {21, 40}) {
            KeysForSecond x = alone();
            row(x, 0, 0, times(n, 7));
            due(n + " numbers", x.whose(0), -2);
            KeysForSecond nobody = new KeysForSecond();
            nobody.sheet(0, 2, n);
            due(n + " numbers of nobody", nobody.whose(0), -2);
        }
    }

    @Says("PEOPLE (bits) of whom that is -1.")
    static void promise28_nobodyAndAll() {
        KeysForSecond x = new KeysForSecond();
        x.sheet(0, 0, 0);
        due("nobody is there", x.whose(0), 0);
        for (int p = 0; p < 6; p++) {
            x.citizen(50, 100 * p + 7);
            due("nothing told", x.whose(0), (2 << p) - 1);
        }
        row(x, 1, 1, times(20, 7));
        due("all", x.whose(1), 63);
        x.put(0, 1, 8);
        due("all but the first", x.whose(1), 62);
        x.put(5, 1, 8);
        due("all but two", x.whose(1), 30);
        x.cell(1, 19, 8);
        due("nobody", x.whose(1), 0);
        row(x, 1, 1, times(20, 8));
        due("the first and the last", x.whose(1), 33);
    }

    @Says("What is asked changes nothing, but where it is told.")
    static void promise28_askedChangesNothing() {
        for (int s = 0; s < 3; s++) {
            asked("whose", s);
        }
    }

    // ---- 29: laws

    @Says("BAD, -11, BAD, -5 likewise.")
    static void promise29_refusalsInTheirOrder() {
        refusesSheets("laws");
    }

    @Says("TEXTS (bits), were they THE LAW, by which that would be -1.")
    static void promise29_oneAndSixTexts() {
        KeysForSecond x = alone();
        x.sheet(0, 0, 0);
        row(x, 1, 0, times(20, 7));
        row(x, 2, 0, times(20, 8));
        for (int many = 1; many <= 6; many++) {
            due("nothing told", x.laws(0, 0), (1 << many) - 1);
            due("all", x.laws(1, 0), (1 << many) - 1);
            due("none", x.laws(2, 0), 0);
            text(x, "tries1;pays2;goes" + many + ";");
        }
        text(x, "tries1;pays2;goes");
        due("a fault is no text", x.laws(0, 0), 63);
    }

    @Says("TEXTS (bits), were they THE LAW, by which that would be -1.")
    static void promise29_eachTextsBit() {
        KeysForSecond x = people(0, 330, 0, 350);
        behindAll(x, 0);
        for (int t = 1; t < 6; t++) {
            text(x, "tries1;pays" + (2 + t) + ";goes0;");
        }
        x.force(3);
        for (int t = 0; t < 6; t++) {
            row(x, 0, 0, 48 - t);
            due("text " + t, x.laws(0, 1), 1 << t);
        }
        row(x, 0, 0, 50);
        due("no text", x.laws(0, 1), 0);
        row(x, 0, 0, 48, 46);
        due("the first one goes on", x.laws(0, 1), 1);
        due("the law stays", x.count(4), 3);
    }

    @Says("What is asked changes nothing, but where it is told.")
    static void promise29_askedChangesNothing() {
        asked("laws", 0, 0);
        asked("laws", 2, 5);
    }

    // ---- 30: film

    @Says("BAD: SHEET; -5: none such; -7: n.")
    static void promise30_refusalsInTheirOrder() {
        for (int s : new int[] {-1, 4, MIN, MAX}) {
            refused(-2, "film", s, 0, 1);
            refused(-2, "film", s, 6, 21);
        }
        for (int p : new int[] {-1, 6, MIN, MAX}) {
            refused(-5, "film", 0, p, 1);
            refused(-5, "film", 3, p, 21);
            refused(-5, "film", 2, p, -1);
        }
        due("nobody is there", new KeysForSecond().film(0, 0, 0), -5);
        due("one is there", alone().film(0, 1, 0), -5);
    }

    @Says("n MINUTES (0 .. 20; bytes): n.")
    static void promise30_nFrom0To20() {
        for (int n : new int[] {-1, 21, MIN, MAX}) {
            refused(-7, "film", 0, 0, n);
            refused(-7, "film", 2, 5, n);
            refused(-7, "film", 3, 0, n);
        }
        for (int n : new int[] {0, 1, 19, 20}) {
            KeysForSecond x = alone();
            due("film", x.film(3, 0, n), n);
            due("as told", x.judge(3, 0), -1);
            due("so long", x.copy(3, 0, 3, 0, n), n);
            due("no longer", x.copy(3, 0, 3, 0, n + 1), -12);
            due("in thought", x.count(1), 0);
        }
    }

    @Says("A SHEET truly becomes EGGS of one behind 1, .., n MINUTES (0 .. 20; bytes): n.")
    static void promise30_noneIsARowStill() {
        KeysForSecond x = alone();
        x.film(0, 0, 0);
        due("not missing", x.cell(0, 0, 0), -12);
        due("of bytes", x.peopleBy(0, 0, 0, 0), 0);
        due("not of shorts", x.peopleBy(0, 1, 0, 0), -13);
        row(x, 1, 2, 1, 2, 3);
        due("over a row of ints", x.film(1, 0, 1), 1);
        due("one number", x.cell(1, 1, 0), -12);
        due("of bytes", x.peopleBy(1, 0, 0, 0), 0);
        due("as told", x.judge(1, 0), -1);
    }

    @Says("A SHEET truly becomes EGGS of one behind 1, .., n MINUTES")
    static void promise30_eachMinutesEggs() {
        KeysForSecond x = two();
        x.put(0, 1, 98);
        x.film(0, 0, 3);
        // 0 gets 1 of 1, then pays 1 and gets 1, and so again.
        row(x, 1, 0, 99, 99, 99);
        due("0's", x.judge(0, 0), -1);
        due("99, 99, 99", x.judge(1, 0), -1);
        x = guest(1, 0, 3);
        x.town(0, 0, 18);
        x.film(0, 1, 20);
        row(x, 1, 0, 2, 1, 0, 0);
        due("as it goes", x.judge(1, 1), -1);
        due("as filmed", x.judge(0, 1), -1);
        x.cell(0, 19, 5);
        due("up to the last minute", x.judge(0, 1), 19);
    }
}
