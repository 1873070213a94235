import java.io.IOException;
import java.util.function.Supplier;

/** The boundary sentences of promises 12 to 22: tries, minutes, what is best. */
public final class BoundaryMinutesTest extends BoundaryKit {
    public static void main(String[] args) throws IOException {
        run(BoundaryMinutesTest.class, 12, 22);
    }

    /** 0 is the first of door 7, 1 stands there too; who comes in pays so much; so much is behind. */
    private static KeysForSecond atDoor7(int pays, int eggsOf0, int eggsOf1, int behind) {
        KeysForSecond x = ruled("1", String.valueOf(pays), "0", 0, 700 + eggsOf0, 0, 700 + eggsOf1);
        x.town(1, 7, behind);
        x.town(2, 7, 0);
        return x;
    }

    /** 1 goes on once a day and comes to 0's door behind 59 minutes; both try it in the next one alone. */
    private static KeysForSecond inMinute60() {
        KeysForSecond x = ruled("door = 3 and minute = 0", "1", "minute = 19", 50, 330, 0, 30);
        x.town(0, 0, 1);
        return x;
    }

    /** A minute later than that: 0 and 1 come in by nobody before minute 61. */
    private static KeysForSecond inMinute61() {
        KeysForSecond x = inMinute60();
        x.town(0, 0, 0);
        return x;
    }

    // ---- 12: twist

    @Says("-5: none such.")
    static void promise12_noneSuch() {
        for (int p : new int[] {-1, 6, MIN, MAX}) {
            refused(-5, "twist", p);
        }
        due("nobody is there", new KeysForSecond().twist(0), -5);
        due("one is there", people(0, 0).twist(1), -5);
    }

    @Says("A TRY of a DOOR by one is 0, if it has no FIRST: one is its FIRST then;")
    static void promise12_aDoorWithoutAFirst() {
        KeysForSecond x = people(0, 730, 0, 30);
        due("0", x.twist(0), 0);
        due("its first", x.door(7, 0), 0);
        due("no second", x.door(7, 1), -1);
        due("behind", x.door(7, 2), 10);
        due("eggs", x.told(0, 1), 30);
        due("came", x.told(0, 2), 0);
        due("door 0 has none", x.door(0, 0), -1);
    }

    @Says("1, if one is its FIRST oneself;")
    static void promise12_oneselfIsItsFirst() {
        KeysForSecond x = people(0, 730, 0, 730);
        x.twist(0);
        due("1", x.twist(0), 1);
        due("1 again", x.twist(0), 1);
        due("its first", x.door(7, 0), 0);
        due("no second", x.door(7, 1), -1);
        due("behind", x.door(7, 2), 10);
        due("eggs", x.told(0, 1), 30);
        due("came", x.told(0, 2), 0);
        x.twist(1);
        due("1 behind its own coming in", x.twist(1), 1);
        due("the second stays", x.door(7, 1), 1);
        due("came once", x.told(1, 2), 1);
    }

    @Says("else 2: one comes in:")
    static void promise12_anotherOneIsItsFirst() {
        KeysForSecond x = people(0, 730, 0, 730, 0, 730);
        x.twist(0);
        due("2", x.twist(1), 2);
        due("first", x.door(7, 0), 1);
        due("second", x.door(7, 1), 1);
        due("2 by the third", x.twist(2), 2);
        due("first then", x.door(7, 0), 2);
        due("second then", x.door(7, 1), 2);
        due("2 by 0", x.twist(0), 2);
        due("second of the day, again", x.door(7, 1), 0);
        due("came of 0", x.told(0, 2), 1);
    }

    @Says("one is its SECOND and its FIRST then.")
    static void promise12_secondAndFirst() {
        KeysForSecond x = people(0, 0, 0, 0);
        x.town(2, 0, 1);
        due("2", x.twist(0), 2);
        due("first", x.door(0, 0), 0);
        due("second", x.door(0, 1), 0);
        due("another door's first", x.door(1, 0), -1);
        due("another door's second", x.door(1, 1), -1);
    }

    @Says("as one PAYS, no more than one has,")
    static void promise12_paysNoMoreThanOneHas() {
        int[] paid = {0, 1, 2, 3, 3, 3};
        for (int eggs = 0; eggs < paid.length; eggs++) {
            KeysForSecond x = atDoor7(3, 50, eggs, 0);
            due("2", x.twist(1), 2);
            due("the first one's of " + eggs, x.told(0, 1), 50 + paid[eggs]);
            due("one's own of " + eggs, x.told(1, 1), eggs - paid[eggs]);
        }
    }

    @Says("than FIRST has room for (99);")
    static void promise12_paysNoMoreThanThereIsRoomFor() {
        int[] paid = {3, 3, 2, 1, 0};
        for (int i = 0; i < paid.length; i++) {
            KeysForSecond x = atDoor7(3, 95 + i, 50, 0);
            due("2", x.twist(1), 2);
            due("the first one's of " + (95 + i), x.told(0, 1), 95 + i + paid[i]);
            due("one's own", x.told(1, 1), 50 - paid[i]);
        }
    }

    @Says("FIRST gets as many EGGS of one as one PAYS,")
    static void promise12_paysNothingAndAll() {
        KeysForSecond x = atDoor7(0, 50, 50, 0);
        x.twist(1);
        due("nothing", x.told(0, 1), 50);
        x = atDoor7(99, 0, 99, 0);
        x.twist(1);
        due("all 99", x.told(0, 1), 99);
        due("none are left", x.told(1, 1), 0);
        x = ruled("1", "99", "0", 0, 0, 29, 99);
        x.twist(0);
        due("would pay 108", x.told(1, 6), 108);
        due("2", x.twist(1), 2);
        due("pays 99", x.told(0, 1), 99);
        due("and finds 10", x.told(1, 1), 10);
    }

    @Says("then one has so many of what is BEHIND more (and that is less), as one has room for;")
    static void promise12_findsNoMoreThanThereIsRoomFor() {
        int[][] rows = {{0, 10, 0}, {89, 99, 0}, {90, 99, 1}, {98, 99, 9}, {99, 99, 10}};
        for (int[] row : rows) {
            KeysForSecond x = atDoor7(0, 50, row[0], 10);
            x.twist(1);
            due("eggs, of " + row[0], x.told(1, 1), row[1]);
            due("behind, of " + row[0], x.door(7, 2), row[2]);
        }
    }

    @Says("then one has so many of what is BEHIND more (and that is less), as one has room for;")
    static void promise12_roomIsMadeByPayingFirst() {
        KeysForSecond x = atDoor7(2, 50, 99, 10);
        x.twist(1);
        due("paid", x.told(0, 1), 52);
        due("99 again", x.told(1, 1), 99);
        due("behind", x.door(7, 2), 8);
        x = atDoor7(2, 99, 99, 10);
        x.twist(1);
        due("no room at the first one", x.told(0, 1), 99);
        due("nor here", x.told(1, 1), 99);
        due("so all stays behind", x.door(7, 2), 10);
        due("but one came in", x.told(1, 2), 1);
        x = atDoor7(2, 50, 1, 10);
        x.twist(1);
        due("what is found does not pay", x.told(0, 1), 51);
        due("found", x.told(1, 1), 10);
    }

    @Says("BEHIND (0 .. 99 eggs; 10 at first)")
    static void promise12_nothingAndAllBehind() {
        KeysForSecond x = atDoor7(2, 50, 30, 0);
        due("2", x.twist(1), 2);
        due("nothing found", x.told(1, 1), 28);
        due("nothing behind", x.door(7, 2), 0);
        x = atDoor7(0, 50, 0, 99);
        x.twist(1);
        due("all found", x.told(1, 1), 99);
        due("nothing left", x.door(7, 2), 0);
        due("of other doors", x.door(0, 2), 10);
    }

    @Says("CAME is 1 more (99 at most);")
    static void promise12_came99AtMost() {
        KeysForSecond x = people(50, 0, 50, 0);
        x.twist(0);
        for (int i = 1; i <= 101; i++) {
            due("2", x.twist(1), 2);
            due("came of 1", x.told(1, 2), Math.min(i, 99));
            x.twist(0);
        }
        due("came of 0", x.told(0, 2), 99);
        due("second still", x.door(0, 1), 0);
    }

    @Says("A TRY of the DOOR one is AT, truly: what it is.")
    static void promise12_whetherOneTriesOrNot() {
        KeysForSecond x = ruled("0", "2", "1", 30, 30, 20, 30);
        x.town(0, 0, 19);
        due("a doctor tries no untried door, but here", x.twist(1), 0);
        due("a banker tries no tried door, but here", x.twist(0), 2);
        due("no minute passes", x.count(1), 19);
        due("no midnight", x.door(0, 1), 0);
        due("nobody goes", x.door(0, 3), 3);
    }

    // ---- 13: give

    @Says("-5: no such two, one and the same;")
    static void promise13_noSuchTwo() {
        for (int p : new int[] {-1, 6, MIN, MAX}) {
            refused(-5, "give", p, 0, 0);
            refused(-5, "give", 0, p, 0);
            refused(-5, "give", p, p, 0);
        }
        due("one alone", people(0, 30).give(0, 1, 0), -5);
        due("one alone, the other way", people(0, 30).give(1, 0, 0), -5);
    }

    @Says("-5: no such two, one and the same;")
    static void promise13_oneAndTheSame() {
        for (int p = 0; p < 6; p++) {
            refused(-5, "give", p, p, 0);
            refused(-5, "give", p, p, 1);
        }
    }

    @Says("So many (much; 0 .. 99)")
    static void promise13_muchFrom0To99() {
        due("0", people(0, 0, 0, 99).give(0, 1, 0), 99);
        due("99", people(0, 99, 0, 0).give(0, 1, 99), 99);
        for (int much : new int[] {-1, 100, MIN, MAX}) {
            refused(-7, "give", 0, 1, much);
            refused(-7, "give", 5, 4, much);
        }
    }

    @Says("STATE: one hasn't so many, that one has no room for them.")
    static void promise13_oneHasNotSoMany() {
        for (int has : new int[] {0, 1, 98}) {
            int[] made = {0, has, 0, 0};
            KeysForSecond x = people(made);
            due("all of " + has, x.give(0, 1, has), has);
            due("none left", x.told(0, 1), 0);
            refusedIn(() -> people(made), -3, "give", 0, 1, has + 1);
        }
    }

    @Says("STATE: one hasn't so many, that one has no room for them.")
    static void promise13_thatOneHasNoRoom() {
        for (int room : new int[] {0, 1, 49}) {
            int[] made = {0, 50, 0, 99 - room};
            KeysForSecond x = people(made);
            due("to the brim", x.give(0, 1, room), 99);
            due("so many less", x.told(0, 1), 50 - room);
            refusedIn(() -> people(made), -3, "give", 0, 1, room + 1);
        }
    }

    @Says("-5: no such two, one and the same; -7: much; STATE:")
    static void promise13_theFirstRefusalOfSeveral() {
        refused(-5, "give", 6, 0, 100);
        refused(-5, "give", 0, -1, -1);
        refused(-5, "give", 2, 2, 100);
        refused(-7, "give", 2, 3, 100);
        refused(-5, "give", 2, 2, 99);
    }

    // ---- 14: minute

    private static KeysForSecond at(int minute, KeysForSecond x) {
        x.town(0, 0, minute);
        return x;
    }

    @Says("STATE: MINUTE is 9999.")
    static void promise14_noMinuteBehind9999() {
        refusedIn(() -> at(9999, rich()), -3, "minute");
        KeysForSecond x = at(9998, people(50, 0, 50, 0));
        due("who comes in", x.minute(), 2);
        due("9999", x.count(1), 9999);
        due("no more", x.minute(), -3);
        due("nor then", x.minute(), -3);
        x.town(0, 0, 9997);
        due("set back", x.minute(), 3);
        due("9998", x.count(1), 9998);
    }

    @Says("who comes in (bits).")
    static void promise14_nobodyAndAll() {
        KeysForSecond x = new KeysForSecond();
        due("nobody there", x.minute(), 0);
        due("it passes", x.count(1), 1);
        x = people(50, 0, 50, 0, 50, 0, 50, 0, 50, 0, 50, 0);
        due("all but the first", x.minute(), 62);
        due("all", x.minute(), 63);
        x = people(50, 0, 50, 100, 50, 200);
        due("each at another door", x.minute(), 0);
        due("each its own first", x.minute(), 0);
        due("nobody ever", at(9990, people(50, 0)).minute(), 0);
    }

    @Says("one by one, by numbers: one TRIES (the DOOR one is AT), or not;")
    static void promise14_orNot() {
        KeysForSecond x = ruled("more", "2", "1", 0, 0, 1, 0, 0, 0, 1, 0);
        due("1 is first, 3 comes in", x.minute(), 8);
        due("first", x.door(0, 0), 3);
        due("all go on", x.door(1, 3), 15);
    }

    @Says("then one is AT the DOOR so many on as one GOES (round).")
    static void promise14_round() {
        KeysForSecond x = people(10, 700, 10, 600, 10, 0);
        x.minute();
        due("7, 0", x.told(0, 0), 0);
        due("6, 7", x.told(1, 0), 7);
        due("0, 1", x.told(2, 0), 1);
        x = people(30, 700, 30, 0, 30, 100);
        x.minute();
        due("7, 6", x.told(0, 0), 6);
        due("0, 7", x.told(1, 0), 7);
        due("1, 0", x.told(2, 0), 0);
        x = people(50, 700, 50, 0);
        x.minute();
        due("7 stays", x.told(0, 0), 7);
        due("0 stays", x.told(1, 0), 0);
    }

    @Says("is that of the day 0 then, no DOOR has a FIRST, nor a SECOND, any more.")
    static void promise14_midnight() {
        for (int minute : new int[] {0, 1, 17, 18, 19, 20, 38, 39, 9979, 9980, 9998}) {
            KeysForSecond x = at(minute, people(50, 0, 50, 0, 50, 700, 50, 700));
            due("1 and 3 come in", x.minute(), 10);
            boolean midnight = minute % 20 == 19;
            for (int d : new int[] {0, 7}) {
                due("first of " + d + " behind " + minute, x.door(d, 0), midnight ? -1 : d == 0 ? 1 : 3);
                due("second of " + d + " behind " + minute, x.door(d, 1), midnight ? -1 : d == 0 ? 1 : 3);
                due("behind it", x.door(d, 2), 0);
            }
            due("came stays", x.told(1, 2), 1);
            due("the next minute", x.minute(), minute == 9998 ? -3 : midnight ? 10 : 15);
        }
    }

    @Says("(All told as it is then.)")
    static void promise14_eachAsItIsThen() {
        KeysForSecond x = ruled("1", "eggs", "tried", 0, 3, 0, 3);
        due("1 comes in", x.minute(), 2);
        due("0 was paid 3", x.told(0, 1), 6);
        due("0 went behind its try", x.told(0, 0), 1);
        x = ruled("tried", "1", "0", 10, 3, 0, 3);
        due("1 sees the first of this minute", x.minute(), 2);
        x = ruled("tried", "1", "0", 0, 3, 10, 3);
        due("0 did not", x.minute(), 0);
    }

    @Says("An object is used for at most 512 calls after it has been made")
    static void promise14_512Calls() {
        KeysForSecond x = new KeysForSecond();
        for (int i = 1; i <= 511; i++) {
            due("minute " + i, x.minute(), 0);
        }
        due("the last call", x.count(1), 511);
    }

    // ---- 15: run

    @Says("n MINUTES (0 .. 60), in thought:")
    static void promise15_nFrom0To60() {
        for (int n : new int[] {-1, 61, MIN, MAX}) {
            refused(-2, "run", n, 0);
            refused(-2, "run", n, 25);
        }
        KeysForSecond x = people(10, 330);
        int[][] rows = {{0, 3}, {1, 4}, {4, 7}, {5, 0}, {59, 6}, {60, 7}};
        for (int[] row : rows) {
            due("door behind " + row[0], x.run(row[0], 10), row[1]);
        }
        due("a second in minute 60", inMinute60().run(60, 0), 8);
        due("none in minute 59", inMinute60().run(59, 0), 0);
    }

    @Says("the DOOR who is numbered what less 10 is AT (10 ..), EGGS of who is numbered what less 20 (20 ..), "
        + "CAME of who is numbered what less 30 (30 ..). BAD.")
    static void promise15_noSuchWhat() {
        for (int what : new int[] {-1, 3, 4, 9, 16, 19, 26, 29, 36, 39, 40, 45, 100, MIN, MAX}) {
            refused(-2, "run", 0, what);
            refused(-2, "run", 60, what);
        }
    }

    @Says("the DOOR who is numbered what less 10 is AT (10 ..)")
    static void promise15_nobodyAndTheLastOne() {
        for (int what : new int[] {10, 20, 30}) {
            due("nobody", new KeysForSecond().run(0, what), -2);
            due("one", people(0, 0).run(0, what), 0);
            due("no second one", people(0, 0).run(0, what + 1), -2);
        }
        KeysForSecond x = people(0, 0, 0, 0, 0, 0, 0, 0, 0, 0, 50, 799);
        due("door of the last one", x.run(0, 15), 7);
        due("eggs of the last one", x.run(0, 25), 99);
        due("came of the last one", x.run(0, 35), 0);
        due("doors of nobody", new KeysForSecond().run(60, 0), 0);
        due("behind for nobody", new KeysForSecond().run(60, 2), 80);
    }

    @Says("EGGS of who is numbered what less 20 (20 ..), CAME of who is numbered what less 30 (30 ..)")
    static void promise15_theFirstOfEachTen() {
        KeysForSecond x = people(50, 407, 50, 408);
        x.twist(1);
        x.twist(0);
        due("door of 0", x.run(0, 10), 4);
        due("eggs of 0", x.run(0, 20), 16);
        due("came of 0", x.run(0, 30), 1);
        due("door of 1", x.run(0, 11), 4);
        due("eggs of 1", x.run(0, 21), 9);
        due("came of 1", x.run(0, 31), 0);
    }

    @Says("DOORS (bits) with a SECOND then (what 0), with a FIRST (1), BEHIND of all, together (2)")
    static void promise15_allDoorsAndNone() {
        KeysForSecond x = people(0, 0, 0, 0);
        int[][] rows = {{0, 0, 80}, {1, 1, 70}, {7, 127, 10}, {8, 255, 0}, {19, 255, 0}, {20, 0, 0}, {21, 16, 0}};
        for (int[] row : rows) {
            due("seconds behind " + row[0], x.run(row[0], 0), row[1]);
            due("firsts behind " + row[0], x.run(row[0], 1), row[1]);
            due("eggs behind " + row[0], x.run(row[0], 2), row[2]);
        }
        x = people(10, 0);
        due("firsts alone", x.run(8, 1), 255);
        due("no seconds", x.run(8, 0), 0);
        behindAll(x, 99);
        due("most", x.run(60, 2), 792);
        behindAll(x, 0);
        due("none", x.run(60, 2), 0);
    }

    @Says("in thought it may pass 9999")
    static void promise15_past9999() {
        KeysForSecond x = at(9999, ruled("1", "1", "minute = 1", 0, 30));
        int[][] rows = {{0, 0}, {1, 0}, {2, 0}, {3, 1}, {22, 1}, {23, 2}, {60, 3}};
        for (int[] row : rows) {
            due("door behind " + row[0], x.run(row[0], 10), row[1]);
        }
        due("midnight of 10000", x.run(1, 1), 0);
        due("the day behind it", x.run(2, 1), 1);
        due("9999 still", x.count(1), 9999);
    }

    @Says("CAME: how often one came in (0 .. 99; 0 as one comes)")
    static void promise15_came99AtMostInThought() {
        KeysForSecond x = people(50, 0, 50, 0);
        x.twist(0);
        for (int i = 0; i < 98; i++) {
            x.twist(1);
            x.twist(0);
        }
        due("98", x.run(0, 31), 98);
        due("99", x.run(1, 31), 99);
        due("99 at most", x.run(9, 31), 99);
    }

    @Says("What is asked changes nothing, but where it is told.")
    static void promise15_askedChangesNothing() {
        for (int what : new int[] {0, 1, 2, 10, 15, 20, 25, 30, 35}) {
            asked("run", 0, what);
            asked("run", 60, what);
        }
    }

    // ---- 16: when

    @Says("-7: what.")
    static void promise16_noSuchWhat() {
        for (int what : new int[] {-1, 10, MIN, MAX}) {
            refused(-7, "when", what);
        }
    }

    @Says("Behind how many MINUTES (0 .. 60)")
    static void promise16_behind0() {
        KeysForSecond x = people(50, 700, 50, 700);
        x.twist(0);
        due("not yet", x.when(7), 1);
        x.twist(1);
        due("now", x.when(7), 0);
        x.town(0, 0, 19);
        due("now, whatever midnight brings", x.when(7), 0);
        x.minute();
        due("the next day", x.when(7), 1);
    }

    @Says("Behind how many MINUTES (0 .. 60)")
    static void promise16_behind60() {
        due("behind 60", inMinute60().when(3), 60);
        due("not by then", inMinute61().when(3), -1);
    }

    @Says("DOOR what (0 .. 7) has a SECOND")
    static void promise16_eachDoor() {
        for (int d = 0; d < 8; d++) {
            KeysForSecond x = people(50, 100 * d, 50, 100 * d);
            for (int what = 0; what < 8; what++) {
                due("door " + what, x.when(what), what == d ? 1 : -1);
            }
        }
    }

    @Says("-1: not by then.")
    static void promise16_notByThen() {
        for (int what = 0; what <= 8; what++) {
            due("nobody is there", new KeysForSecond().when(what), -1);
            due("one alone", people(10, 0).when(what), -1);
        }
        KeysForSecond x = ruled("minute = 19", "1", "0", 0, 0, 0, 0);
        due("shut again with the minute that opens it", x.when(0), -1);
    }

    @Says("(a -1 that is an answer comes behind the refusal of a number)")
    static void promise16_aRefusalAheadOfNotByThen() {
        for (int what : new int[] {-1, 10}) {
            due("nobody is there", new KeysForSecond().when(what), -7);
        }
    }

    @Says("all DOORS have one (8)")
    static void promise16_allDoors() {
        KeysForSecond x = people(10, 0, 10, 0);
        due("door by door", x.when(8), 8);
        due("the last one", x.when(7), 8);
        due("the first one", x.when(0), 1);
        x.town(0, 0, 12);
        due("just ahead of midnight: not so", x.when(8), 16);
        x.town(0, 0, 11);
        due("the day is long enough", x.when(8), 8);
        x = people(10, 0, 10, 0);
        minutes(x, 7);
        due("seven have one", x.when(8), 1);
        x.minute();
        due("all have one", x.when(8), 0);
    }

    @Says("nobody is AT a DOOR alone (9) for the first time;")
    static void promise16_nobodyAlone() {
        due("nobody at all", new KeysForSecond().when(9), 0);
        due("one alone", people(50, 0).when(9), -1);
        due("two together", people(50, 700, 50, 700).when(9), 0);
        due("one of three at door 0", people(50, 0, 50, 700, 50, 700).when(9), -1);
        due("one of three at door 7", people(50, 700, 50, 0, 50, 0).when(9), -1);
        due("three together", people(50, 300, 50, 300, 50, 300).when(9), 0);
        due("two and two", people(50, 0, 50, 700, 50, 700, 50, 0).when(9), 0);
        due("once round the other way", people(50, 0, 10, 100).when(9), 7);
        due("meets but once", people(50, 0, 10, 0, 10, 100).when(9), -1);
    }

    @Says("nobody is AT a DOOR alone (9) for the first time;")
    static void promise16_nobodyAloneBehind60() {
        KeysForSecond x = ruled("0", "0", "minute = 19", 50, 300, 0, 0);
        due("the third midnight", x.when(9), 60);
        x = ruled("0", "0", "minute = 0", 50, 400, 0, 0);
        due("the minute behind it", x.when(9), -1);
        x.put(1, 0, 1);
        due("a day less", x.when(9), 41);
    }

    @Says("in thought it may pass 9999")
    static void promise16_past9999() {
        KeysForSecond x = at(9999, people(50, 0, 50, 0));
        due("10000 is midnight", x.when(0), 2);
        due("9999 still", x.count(1), 9999);
    }

    @Says("What is asked changes nothing, but where it is told.")
    static void promise16_askedChangesNothing() {
        for (int what = 0; what <= 9; what++) {
            asked("when", what);
        }
    }

    // ---- 17: waits

    @Says("-5: none such.")
    static void promise17_noneSuch() {
        for (int p : new int[] {-1, 6, MIN, MAX}) {
            refused(-5, "waits", p);
        }
        due("nobody is there", new KeysForSecond().waits(0), -5);
        due("one is there", people(0, 0).waits(1), -5);
    }

    @Says("(1 .. 60; 1: the next one)")
    static void promise17_theNextOne() {
        KeysForSecond x = people(50, 0, 50, 0);
        due("1 comes in at once", x.waits(1), 1);
        due("0 then", x.waits(0), 2);
        x.minute();
        due("1 again", x.waits(1), 1);
        due("0 now", x.waits(0), 1);
        due("in 9999", at(9999, people(50, 0, 50, 0)).waits(1), 1);
        due("in 9999, the first one of the day", at(9999, people(50, 0, 50, 0)).waits(0), 3);
    }

    @Says("(1 .. 60; 1: the next one)")
    static void promise17_theSixtieth() {
        due("in 60", inMinute60().waits(1), 60);
        due("in 61", inMinute61().waits(1), -1);
    }

    @Says("-1: in none.")
    static void promise17_inNone() {
        due("alone", people(10, 0).waits(0), -1);
        due("its own first", inMinute60().waits(0), -1);
        due("who tries no tried door", ruled("0", "1", "1", 10, 0, 10, 100).waits(1), -1);
    }

    @Says("In which of the MINUTES to come (1 .. 60; 1: the next one) one comes in first;")
    static void promise17_midnightHidesNoComingIn() {
        KeysForSecond x = ruled("minute = 19", "1", "0", 0, 0, 0, 0);
        due("the last minute of the day", x.waits(1), 20);
        x.town(0, 0, 19);
        due("this one", x.waits(1), 1);
    }

    @Says("What is asked changes nothing, but where it is told.")
    static void promise17_askedChangesNothing() {
        for (int p = 0; p < 6; p++) {
            asked("waits", p);
        }
    }

    // ---- 18: pair

    @Says("(what 0; -1: there are no two), how many (1; -1). BAD.")
    static void promise18_noSuchWhat() {
        for (int what : new int[] {-1, 2, MIN, MAX}) {
            refused(-2, "pair", what);
            due("ahead of there are no two", new KeysForSecond().pair(what), -2);
        }
    }

    @Says("(what 0; -1: there are no two), how many (1; -1).")
    static void promise18_noTwo() {
        due("nobody", new KeysForSecond().pair(0), -1);
        due("nobody, how many", new KeysForSecond().pair(1), -1);
        due("one", people(0, 99).pair(0), -1);
        due("one, how many", people(0, 99).pair(1), -1);
        due("two", people(0, 0, 0, 0).pair(0), 10);
    }

    @Says("(a -1 that is an answer comes behind the refusal of a number)")
    static void promise18_aRefusalAheadOfNoTwo() {
        for (int what : new int[] {-1, 2}) {
            due("nobody", new KeysForSecond().pair(what), -2);
            due("one", people(0, 0).pair(what), -2);
        }
    }

    @Says("that other one would have most EGGS, of like ones the first by that number")
    static void promise18_noEggsAtAll() {
        KeysForSecond x = people(0, 0, 0, 0, 0, 0);
        behindAll(x, 0);
        due("the first two", x.pair(0), 10);
        due("none", x.pair(1), 0);
    }

    @Says("that other one would have most EGGS, of like ones the first by that number")
    static void promise18_ofLikeOnesTheFirst() {
        KeysForSecond x = people(40, 30, 40, 30, 40, 30);
        due("0, 1, door 0", x.pair(0), 10);
        x.town(1, 6, 20);
        x.town(1, 3, 20);
        due("0, 1, door 3", x.pair(0), 13);
        x.put(2, 1, 31);
        due("0, 2, door 3", x.pair(0), 23);
        x.put(0, 1, 31);
        due("0, 2 ahead of 1, 0", x.pair(0), 23);
        x.put(2, 1, 30);
        due("1, 0, door 3", x.pair(0), 103);
        due("51", x.pair(1), 51);
    }

    @Says("100 times one, 10 times another one, and a DOOR")
    static void promise18_theLastNumbers() {
        KeysForSecond x = people(0, 0, 0, 0, 0, 0, 0, 0, 0, 90, 0, 0);
        behindAll(x, 0);
        x.town(1, 7, 4);
        x.town(2, 7, 5);
        due("5 is first, so that 4 finds all", x.pair(0), 547);
        due("90, less 2, and 4", x.pair(1), 92);
    }

    @Says("were there a TRY of it by the one now, and then one by the other")
    static void promise18_theFirstTryChangesMuch() {
        KeysForSecond x = people(0, 30, 0, 10);
        behindAll(x, 0);
        x.town(2, 4, 1);
        due("0 pays 1 at door 4, is paid in turn", x.pair(0), 100);
        due("0 pays 2 elsewhere", x.pair(1), 28);
        x = people(0, 98, 0, 99);
        due("99 at most", x.pair(1), 99);
        due("0, 1", x.pair(0), 10);
    }

    @Says("What is asked changes nothing, but where it is told.")
    static void promise18_askedChangesNothing() {
        asked("pair", 0);
        asked("pair", 1);
    }

    // ---- 19: stand

    @Says("-5: none such;")
    static void promise19_noneSuch() {
        for (int p : new int[] {-1, 6, MIN, MAX}) {
            refused(-5, "stand", p, 0, 0);
        }
        due("nobody is there", new KeysForSecond().stand(0, 0, 0), -5);
        due("one is there", people(0, 0).stand(1, 0, 0), -5);
    }

    @Says("-7: n, what.")
    static void promise19_noSuchNOrWhat() {
        for (int n : new int[] {-1, 41, MIN, MAX}) {
            refused(-7, "stand", 0, n, 0);
            refused(-7, "stand", 5, n, 1);
        }
        for (int what : new int[] {-1, 2, MIN, MAX}) {
            refused(-7, "stand", 0, 0, what);
            refused(-7, "stand", 5, 40, what);
        }
    }

    @Says("-5: none such; -7: n, what.")
    static void promise19_noneSuchAheadOfAll() {
        refused(-5, "stand", 6, 41, 0);
        refused(-5, "stand", -1, 0, 2);
    }

    @Says("behind n MINUTES (0 .. 40)")
    static void promise19_behind0() {
        KeysForSecond x = people(50, 530, 50, 300);
        due("any door, so the first", x.stand(0, 0, 0), 0);
        due("as now", x.stand(0, 0, 1), 30);
        due("no eggs, the first door", x.stand(1, 0, 0), 0);
        due("no eggs", x.stand(1, 0, 1), 0);
        due("it stays", x.told(0, 0), 5);
    }

    @Says("behind n MINUTES (0 .. 40)")
    static void promise19_behind40() {
        KeysForSecond x = ruled("minute = 19", "2", "0", 0, 30, 0, 30);
        due("0 is paid once by then", x.stand(0, 39, 1), 32);
        due("0 is paid twice", x.stand(0, 40, 1), 34);
        due("1 found 10, paid 2", x.stand(1, 39, 1), 38);
        due("1 paid 2 more", x.stand(1, 40, 1), 36);
    }

    @Says("one would have most EGGS behind n MINUTES (0 .. 40), of like ones the first")
    static void promise19_ofLikeOnesTheFirst() {
        KeysForSecond x = people(50, 30, 50, 130);
        x.town(2, 7, 1);
        due("the last door", x.stand(0, 1, 0), 7);
        due("39", x.stand(0, 1, 1), 39);
        x.town(2, 5, 1);
        due("5 and 7", x.stand(0, 1, 0), 5);
        x.town(1, 7, 11);
        due("7 has one more", x.stand(0, 1, 0), 7);
        x.town(2, 0, 1);
        x.town(1, 0, 11);
        due("0 and 7", x.stand(0, 1, 0), 0);
    }

    @Says("What is asked changes nothing, but where it is told.")
    static void promise19_askedChangesNothing() {
        asked("stand", 0, 40, 0);
        asked("stand", 5, 40, 1);
        asked("stand", 3, 0, 0);
    }

    // ---- 20: rounds

    @Says("how many (1; as so). BAD.")
    static void promise20_noSuchNOrWhat() {
        for (int n : new int[] {-1, 41, MIN, MAX}) {
            refused(-2, "rounds", n, 0);
            refused(-2, "rounds", n, 1);
            due("of nobody", new KeysForSecond().rounds(n, 0), -2);
        }
        for (int what : new int[] {-1, 2, MIN, MAX}) {
            refused(-2, "rounds", 0, what);
            refused(-2, "rounds", 40, what);
        }
    }

    @Says("(what 0; -1: nobody), how many (1; as so).")
    static void promise20_nobody() {
        due("nobody is there", new KeysForSecond().rounds(40, 0), -1);
        due("so none", new KeysForSecond().rounds(40, 1), 0);
        due("one alone", people(10, 0).rounds(5, 0), -1);
        due("so none", people(10, 0).rounds(5, 1), 0);
    }

    @Says("(a -1 that is an answer comes behind the refusal of a number)")
    static void promise20_aRefusalAheadOfNobody() {
        due("n 41", new KeysForSecond().rounds(41, 0), -2);
        due("n -1", new KeysForSecond().rounds(-1, 0), -2);
        due("what 2", people(0, 0).rounds(0, 2), -2);
        due("what -1", people(0, 0).rounds(0, -1), -2);
    }

    @Says("if more than so, of like ones the first")
    static void promise20_noMoreThanSo() {
        KeysForSecond x = people(50, 0, 50, 0);
        due("not at once", x.rounds(0, 0), -1);
        due("none", x.rounds(0, 1), 0);
        due("as without", x.rounds(1, 0), -1);
        due("one", x.rounds(1, 1), 1);
        x.twist(0);
        x.twist(1);
        x.town(2, 0, -1);
        due("one has a second already", x.rounds(0, 0), -1);
        due("one", x.rounds(0, 1), 1);
        x.town(2, 7, 1);
        due("one more by 0", x.rounds(0, 0), 0);
        due("two", x.rounds(0, 1), 2);
    }

    @Says("if more than so, of like ones the first")
    static void promise20_ofLikeOnesTheFirst() {
        KeysForSecond x = people(50, 0, 50, 0, 50, 0);
        x.town(2, 3, 0);
        due("1 and 2", x.rounds(0, 0), 1);
        x.town(2, 4, 1);
        due("2 makes two", x.rounds(0, 0), 2);
        due("two", x.rounds(0, 1), 2);
        x.town(2, 4, 2);
        due("1 alone", x.rounds(0, 0), 1);
        x.town(2, 3, 2);
        due("0 and 1", x.rounds(0, 0), 0);
    }

    @Says("were there a TRY of all DOORS, by numbers, by that one now")
    static void promise20_allDoorsByTheLastOne() {
        KeysForSecond x = people(50, 0, 50, 0, 50, 0, 50, 0, 50, 0, 50, 0);
        int[] firsts = {0, 0, 1, 1, 2, 3, 4, 0};
        for (int d = 0; d < 8; d++) {
            x.town(2, d, firsts[d]);
        }
        due("5", x.rounds(0, 0), 5);
        due("all", x.rounds(0, 1), 8);
        x.town(2, 7, -1);
        due("5 still", x.rounds(0, 0), 5);
        due("seven", x.rounds(0, 1), 7);
        x.town(2, 0, -1);
        due("six", x.rounds(0, 1), 6);
    }

    @Says("behind n MINUTES (0 .. 40), if more than so")
    static void promise20_behind40() {
        KeysForSecond x = at(1, ruled("minute = 0", "2", "0", 50, 0, 50, 0));
        due("none behind 39", x.rounds(39, 1), 0);
        due("one behind 40", x.rounds(40, 1), 1);
        due("by nobody's round", x.rounds(40, 0), -1);
        x = people(50, 0, 0, 100);
        due("0's round, so that 1 comes in everywhere", x.rounds(8, 0), 0);
        due("all", x.rounds(8, 1), 8);
        due("midnight shuts all", x.rounds(20, 1), 0);
    }

    @Says("What is asked changes nothing, but where it is told.")
    static void promise20_askedChangesNothing() {
        asked("rounds", 0, 0);
        asked("rounds", 40, 0);
        asked("rounds", 40, 1);
    }

    // ---- 21: tries

    @Says("how many have none (1). BAD.")
    static void promise21_noSuchWhat() {
        for (int what : new int[] {-1, 2, MIN, MAX}) {
            refused(-2, "tries", what);
            due("of nobody", new KeysForSecond().tries(what), -2);
        }
    }

    @Says("-1: there are fewer than two PEOPLE, and some DOOR has none")
    static void promise21_fewerThanTwo() {
        due("nobody", new KeysForSecond().tries(0), -1);
        KeysForSecond x = people(0, 0);
        due("one", x.tries(0), -1);
        x.twist(0);
        due("one and its first", x.tries(0), -1);
        due("eight have none", x.tries(1), 8);
        x.citizen(0, 0);
        due("two", x.tries(0), 15);
    }

    @Says("(a -1 that is an answer comes behind the refusal of a number)")
    static void promise21_aRefusalAheadOfFewerThanTwo() {
        for (int what : new int[] {-1, 2}) {
            due("nobody", new KeysForSecond().tries(what), -2);
            due("one", people(0, 0).tries(what), -2);
        }
    }

    @Says("By how few TRIES, of whomever there is, all DOORS have a SECOND")
    static void promise21_fromSixteenToNone() {
        KeysForSecond x = people(50, 0, 50, 0);
        int few = 16;
        for (int d = 0; d < 8; d++) {
            due("doors without", x.tries(1), 8 - d);
            due("tries", x.tries(0), few);
            x.put(0, 0, d);
            x.put(1, 0, d);
            x.twist(0);
            due("one less by a first", x.tries(0), few - 1);
            due("but it has no second", x.tries(1), 8 - d);
            x.twist(1);
            few -= 2;
        }
        due("none", x.tries(0), 0);
        due("no door without", x.tries(1), 0);
    }

    @Says("By how few TRIES, of whomever there is, all DOORS have a SECOND")
    static void promise21_aSecondWithoutAFirst() {
        KeysForSecond x = people(50, 700, 50, 700);
        x.twist(0);
        x.twist(1);
        x.town(2, 7, -1);
        due("it has one", x.tries(0), 14);
        x.town(2, 6, 1);
        due("a first of another door", x.tries(0), 13);
        x.town(0, 0, 19);
        x.put(0, 0, 1);
        x.put(1, 0, 2);
        x.minute();
        due("midnight", x.tries(0), 16);
    }

    @Says("What is asked changes nothing, but where it is told.")
    static void promise21_askedChangesNothing() {
        asked("tries", 0);
        asked("tries", 1);
    }

    // ---- 22: share

    @Says("NO: none such, there are none.")
    static void promise22_noneSuch() {
        for (int p : new int[] {-1, 6, MIN, MAX}) {
            refused(NO, "share", p, 0);
            refused(NO, "share", p, 1);
        }
        for (int part : new int[] {-1, 2, MIN, MAX}) {
            refused(NO, "share", 0, part);
            refused(NO, "share", 5, part);
        }
        due("nobody is there", new KeysForSecond().share(0, 0), NO);
        due("one is there", people(0, 0).share(1, 0), NO);
    }

    @Says("NO: none such, there are none.")
    static void promise22_thereAreNone() {
        KeysForSecond x = people(0, 0, 0, 0);
        behindAll(x, 0);
        due("above", x.share(0, 0), NO);
        due("below", x.share(1, 1), NO);
        x.town(1, 7, 1);
        due("one behind a door, above", x.share(0, 0), 0);
        due("one behind a door, below", x.share(0, 1), 1);
        x.town(1, 7, 0);
        x.put(1, 1, 1);
        due("the other one's, above", x.share(0, 0), 0);
        due("the other one's, below", x.share(0, 1), 1);
        due("one's own, above", x.share(1, 0), 1);
        due("one's own, below", x.share(1, 1), 1);
    }

    private static void share(Supplier<KeysForSecond> x, int p, int above, int below) {
        due("above", x.get().share(p, 0), above);
        due("below", x.get().share(p, 1), below);
    }

    @Says("part 0 above, 1 below the line, in lowest terms.")
    static void promise22_inLowestTerms() {
        share(() -> people(0, 0), 0, 0, 1);
        share(() -> people(0, 80), 0, 1, 2);
        share(() -> people(0, 20), 0, 1, 5);
        share(() -> people(0, 60), 0, 3, 7);
        share(() -> people(0, 99), 0, 99, 179);
        share(() -> people(0, 1), 0, 1, 81);
        share(() -> people(0, 99, 0, 99, 0, 99, 0, 99, 0, 99, 0, 99), 5, 99, 674);
    }

    @Says("EGGS of one, of those of all and what is BEHIND all DOORS, together")
    static void promise22_mostOfAll() {
        Supplier<KeysForSecond> full = () -> {
            KeysForSecond x = people(0, 99, 0, 99, 0, 99, 0, 99, 0, 99, 0, 99);
            behindAll(x, 99);
            return x;
        };
        share(full, 0, 1, 14);
        share(full, 5, 1, 14);
        Supplier<KeysForSecond> all = () -> {
            KeysForSecond x = people(0, 99);
            behindAll(x, 0);
            return x;
        };
        share(all, 0, 1, 1);
    }

    @Says("What is asked changes nothing, but where it is told.")
    static void promise22_askedChangesNothing() {
        asked("share", 0, 0);
        asked("share", 5, 1);
    }
}
