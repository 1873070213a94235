import java.io.IOException;

/** The boundary sentences of promises 1 to 11: the town, the law, people. */
public final class BoundaryTownTest extends BoundaryKit {
    public static void main(String[] args) throws IOException {
        run(BoundaryTownTest.class, 1, 11);
    }

    // ---- 1: a new object

    @Says("Nobody.")
    static void promise1_nobodyIsThere() {
        KeysForSecond x = new KeysForSecond();
        due("people", x.count(0), 0);
        for (int p = 0; p < 6; p++) {
            due("nobody " + p, x.told(p, 0), -5);
        }
        for (int d = 0; d < 8; d++) {
            due("nobody at " + d, x.door(d, 3), 0);
        }
    }

    @Says("Nobody.")
    static void promise1_objectsShareNothing() {
        KeysForSecond before = new KeysForSecond();
        KeysForSecond other = rich();
        other.sheet(3, 0, 40);
        KeysForSecond x = new KeysForSecond();
        due("image of the other one", x.back(), -3);
        same("made behind a rich one", x, new KeysForSecond());
        same("made ahead of it", before, new KeysForSecond());
    }

    @Says("MINUTE (0 .. 9999; 0 at first;")
    static void promise1_minuteIs0() {
        due("minute", new KeysForSecond().count(1), 0);
    }

    @Says("BEHIND (0 .. 99 eggs; 10 at first)")
    static void promise1_tenBehindEachDoor() {
        KeysForSecond x = new KeysForSecond();
        for (int d = 0; d < 8; d++) {
            due("behind " + d, x.door(d, 2), 10);
        }
        due("behind all", x.run(0, 2), 80);
    }

    @Says("FIRST: whose hand it was last today (NONE at first)")
    static void promise1_noDoorHasAFirst() {
        KeysForSecond x = new KeysForSecond();
        for (int d = 0; d < 8; d++) {
            due("first of " + d, x.door(d, 0), -1);
        }
    }

    @Says("SECOND: who came in by it last today (NONE at first)")
    static void promise1_noDoorHasASecond() {
        KeysForSecond x = new KeysForSecond();
        for (int d = 0; d < 8; d++) {
            due("second of " + d, x.door(d, 1), -1);
        }
        due("doors with a second", x.count(2), 0);
    }

    @Says("TEXT 0, at first, and THE LAW: tries 1 ; pays 2 ; goes 1 ;")
    static void promise1_textZeroIsTheLaw() {
        KeysForSecond x = people(9, 799);
        due("texts", x.count(3), 1);
        due("law", x.count(4), 0);
        due("tries", x.asks(0, 0), 1);
        due("pays", x.asks(1, 0), 2);
        due("goes", x.asks(2, 0), 1);
        x.town(0, 0, 9999);
        x.town(2, 7, 0);
        x.put(0, 1, 0);
        due("tries, whatever else", x.asks(0, 0), 1);
        due("pays, whatever else", x.asks(1, 0), 2);
        due("goes, whatever else", x.asks(2, 0), 1);
    }

    @Says("A TEXT is read from THE TAPE (160 bytes at most).")
    static void promise1_theTapeIsEmpty() {
        KeysForSecond x = new KeysForSecond();
        due("bytes", x.count(5), 0);
        due("ends too early", x.text(), -100);
    }

    @Says("SHEETS 0 .. 3 are rows of numbers, or missing (as all are at first)")
    static void promise1_sheetsAreMissing() {
        KeysForSecond x = people(0, 0);
        for (int s = 0; s < 4; s++) {
            due("sheet " + s, x.cell(s, 0, 0), -11);
            due("told by sheet " + s, x.judge(s, 0), -11);
        }
    }

    // ---- 2: count

    @Says("0 PEOPLE, 1 MINUTE, 2 DOORS with a SECOND, 3 TEXTS, 4 THE LAW, 5 bytes of THE TAPE. BAD.")
    static void promise2_nothingElseIsCounted() {
        for (int what : new int[] {-1, 6, 7, MIN, MAX}) {
            refused(-2, "count", what);
        }
    }

    @Says("0 PEOPLE, 1 MINUTE, 2 DOORS with a SECOND, 3 TEXTS, 4 THE LAW, 5 bytes of THE TAPE.")
    static void promise2_allThatIsEmpty() {
        int[] due = {0, 0, 0, 1, 0, 0};
        for (int what = 0; what < 6; what++) {
            due("count " + what, new KeysForSecond().count(what), due[what]);
        }
    }

    @Says("0 PEOPLE, 1 MINUTE, 2 DOORS with a SECOND, 3 TEXTS, 4 THE LAW, 5 bytes of THE TAPE.")
    static void promise2_allThatIsFull() {
        KeysForSecond x = people(50, 0, 50, 0, 0, 0, 0, 0, 0, 0, 0, 0);
        for (int t = 1; t < 6; t++) {
            text(x, "tries1;pays1;goes1;");
        }
        x.force(5);
        tape(x, " ".repeat(160));
        for (int d = 0; d < 8; d++) {
            x.put(0, 0, d);
            x.put(1, 0, d);
            x.twist(0);
            x.twist(1);
        }
        x.town(0, 0, 9999);
        int[] due = {6, 9999, 8, 6, 5, 160};
        for (int what = 0; what < 6; what++) {
            due("count " + what, x.count(what), due[what]);
        }
    }

    @Says("2 DOORS with a SECOND")
    static void promise2_aDoorWithAFirstAloneDoesNotCount() {
        KeysForSecond x = people(50, 700, 50, 700);
        x.twist(0);
        due("a first", x.count(2), 0);
        x.twist(0);
        due("a first again", x.count(2), 0);
        x.twist(1);
        due("a second at the last door counts once", x.count(2), 1);
        x.twist(0);
        due("the same door again", x.count(2), 1);
        x.town(2, 7, -1);
        due("its first is none, its second stays", x.count(2), 1);
        x.town(0, 0, 19);
        x.put(0, 0, 3);
        x.minute();
        due("midnight", x.count(2), 0);
    }

    @Says("What is asked changes nothing, but where it is told.")
    static void promise2_askedChangesNothing() {
        for (int what = 0; what < 6; what++) {
            asked("count", what);
        }
    }

    // ---- 3: town

    @Says("MINUTE (0 .. 9999; 0 at first; in thought it may pass 9999)")
    static void promise3_minuteFrom0To9999() {
        KeysForSecond x = new KeysForSecond();
        due("9999", x.town(0, 0, 9999), 0);
        due("it is", x.count(1), 9999);
        due("0", x.town(0, 0, 0), 9999);
        due("it is", x.count(1), 0);
        for (int v : new int[] {-1, 10000, MIN, MAX}) {
            refused(-7, "town", 0, 0, v);
        }
    }

    @Says("MINUTE (what 0; d does not matter)")
    static void promise3_noDoorMattersForMinute() {
        KeysForSecond x = new KeysForSecond();
        int was = 0;
        for (int d : new int[] {-1, 8, 7, MIN, MAX}) {
            due("door " + d, x.town(0, d, was + 3), was);
            was += 3;
        }
        due("minute", x.count(1), 15);
        refused(-7, "town", 0, -1, -1);
        refused(-7, "town", 0, 8, 10000);
    }

    @Says("BEHIND (0 .. 99 eggs; 10 at first)")
    static void promise3_behindFrom0To99() {
        for (int d : new int[] {0, 7}) {
            KeysForSecond x = new KeysForSecond();
            due("99", x.town(1, d, 99), 10);
            due("it is", x.door(d, 2), 99);
            due("0", x.town(1, d, 0), 99);
            due("it is", x.door(d, 2), 0);
            due("of all", x.run(0, 2), 70);
            for (int v : new int[] {-1, 100, MIN, MAX}) {
                refused(-7, "town", 1, d, v);
            }
        }
    }

    @Says("its FIRST (2; -1: none) becomes v: what it was.")
    static void promise3_firstIsOneOfPeopleOrNone() {
        KeysForSecond x = people(0, 0, 0, 0, 0, 0);
        due("last one", x.town(2, 7, 2), -1);
        due("it is", x.door(7, 0), 2);
        due("first one", x.town(2, 7, 0), 2);
        due("it is", x.door(7, 0), 0);
        due("nobody by that number", x.town(2, 7, 3), -7);
        due("it stays", x.door(7, 0), 0);
        due("none", x.town(2, 7, -1), 0);
        due("it is", x.door(7, 0), -1);
        due("none again", x.town(2, 7, -1), -1);
        due("nobody is there", new KeysForSecond().town(2, 0, 0), -7);
        due("none of nobody", new KeysForSecond().town(2, 0, -1), -1);
        due("the sixth", rich().town(2, 0, 5), -1);
        for (int v : new int[] {-2, 6, MIN, MAX}) {
            refused(-7, "town", 2, 3, v);
        }
    }

    @Says("its FIRST (2; -1: none) becomes v: what it was.")
    static void promise3_noSecondComesOfAFirst() {
        KeysForSecond x = people(0, 0, 0, 0);
        x.town(2, 0, 0);
        x.town(2, 0, 1);
        due("second", x.door(0, 1), -1);
        due("eggs behind", x.door(0, 2), 10);
        x.twist(0);
        x.town(2, 0, -1);
        due("the second stays", x.door(0, 1), 0);
    }

    @Says("-5: what, no such DOOR;")
    static void promise3_noSuchWhat() {
        for (int what : new int[] {-1, 3, MIN, MAX}) {
            refused(-5, "town", what, 0, 0);
        }
    }

    @Says("-5: what, no such DOOR;")
    static void promise3_noSuchDoor() {
        for (int d : new int[] {-1, 8, MIN, MAX}) {
            refused(-5, "town", 1, d, 0);
            refused(-5, "town", 2, d, 0);
        }
    }

    @Says("-5: what, no such DOOR; -7: v.")
    static void promise3_whatAndDoorAheadOfV() {
        refused(-5, "town", 3, 0, -2);
        refused(-5, "town", -1, 0, 10000);
        refused(-5, "town", 1, 8, 100);
        refused(-5, "town", 2, -1, 6);
    }

    @Says("MINUTE (what 0; d does not matter), BEHIND of a DOOR (1), its FIRST (2; -1: none) becomes v: what it was.")
    static void promise3_eachWhatIsItsOwn() {
        KeysForSecond x = people(0, 0, 0, 0);
        due("minute", x.town(0, 7, 1), 0);
        due("behind", x.town(1, 7, 0), 10);
        due("first", x.town(2, 7, 1), -1);
        due("minute is", x.count(1), 1);
        due("behind is", x.door(7, 2), 0);
        due("first is", x.door(7, 0), 1);
    }

    @Says("At last MINUTE is 1 more; is that of the day 0 then, no DOOR has a FIRST, nor a SECOND, any more.")
    static void promise3_aMinuteThatIsSetIsNoMidnight() {
        KeysForSecond x = people(0, 0, 0, 0);
        x.twist(0);
        x.twist(1);
        x.town(0, 0, 19);
        x.town(0, 0, 20);
        due("first", x.door(0, 0), 1);
        due("second", x.door(0, 1), 1);
    }

    @Says("FIRST (2; -1: none) becomes v: what it was.")
    static void promise3_theDoorsBesideStay() {
        KeysForSecond x = people(0, 0);
        x.town(1, 4, 44);
        x.town(2, 4, 0);
        for (int d = 0; d < 8; d++) {
            due("behind " + d, x.door(d, 2), d == 4 ? 44 : 10);
            due("first of " + d, x.door(d, 0), d == 4 ? 0 : -1);
        }
    }

    // ---- 4: door

    @Says("-5: no such DOOR;")
    static void promise4_noSuchDoor() {
        for (int d : new int[] {-1, 8, MIN, MAX}) {
            refused(-5, "door", d, 0);
            refused(-5, "door", d, 3);
        }
    }

    @Says("DOORS 0 .. 7: BEHIND (0 .. 99 eggs; 10 at first)")
    static void promise4_eightDoors() {
        KeysForSecond x = people(0, 0, 0, 100, 0, 200, 0, 300, 0, 400, 0, 700);
        for (int d = 0; d < 8; d++) {
            x.town(1, d, 90 + d);
            x.town(2, d, d % 6);
        }
        int[] at = {1, 2, 4, 8, 16, 0, 0, 32};
        for (int d = 0; d < 8; d++) {
            due("first of " + d, x.door(d, 0), d % 6);
            due("second of " + d, x.door(d, 1), -1);
            due("behind " + d, x.door(d, 2), 90 + d);
            due("at " + d, x.door(d, 3), at[d]);
        }
    }

    @Says("-7: what.")
    static void promise4_noSuchWhat() {
        for (int what : new int[] {-1, 4, MIN, MAX}) {
            refused(-7, "door", 0, what);
            refused(-7, "door", 7, what);
        }
    }

    @Says("-5: no such DOOR; -7: what.")
    static void promise4_doorAheadOfWhat() {
        refused(-5, "door", 8, 4);
        refused(-5, "door", -1, -1);
    }

    @Says("What 0 FIRST (-1), 1 SECOND (-1)")
    static void promise4_noneIsLess1() {
        KeysForSecond x = people(0, 700, 0, 700);
        due("no first", x.door(7, 0), -1);
        due("no second", x.door(7, 1), -1);
        x.twist(0);
        due("0 is first", x.door(7, 0), 0);
        due("no second still", x.door(7, 1), -1);
        x.twist(1);
        due("1 is first", x.door(7, 0), 1);
        due("1 is second", x.door(7, 1), 1);
        x.twist(0);
        due("0 is second", x.door(7, 1), 0);
        x.town(2, 7, 1);
        due("a first that is set is no second", x.door(7, 1), 0);
    }

    @Says("3 who is AT it (bits) of a DOOR.")
    static void promise4_atTheFirstAndTheLastDoor() {
        KeysForSecond x = people(0, 0, 0, 700, 0, 700, 0, 0, 0, 300, 0, 700);
        due("door 0", x.door(0, 3), 1 + 8);
        due("door 7", x.door(7, 3), 2 + 4 + 32);
        due("door 3", x.door(3, 3), 16);
        due("door 1", x.door(1, 3), 0);
        for (int p = 0; p < 6; p++) {
            x.put(p, 0, 5);
        }
        due("all six", x.door(5, 3), 63);
        due("nobody any more", x.door(7, 3), 0);
    }

    @Says("What is asked changes nothing, but where it is told.")
    static void promise4_askedChangesNothing() {
        for (int what = 0; what < 4; what++) {
            asked("door", 0, what);
            asked("door", 7, what);
        }
    }

    // ---- 5: feed

    @Says("The first n (1 .. 5) of five bytes")
    static void promise5_nFrom1To5() {
        for (int n : new int[] {0, 6, -1, MIN, MAX}) {
            refused(-2, "feed", n, 1, 2, 3, 4, 5);
        }
        for (int n = 1; n <= 5; n++) {
            due("feed " + n, new KeysForSecond().feed(n, 1, 2, 3, 4, 5), n);
        }
    }

    @Says("of five bytes (0 .. 255 each)")
    static void promise5_bytesFrom0To255() {
        due("0", new KeysForSecond().feed(5, 0, 0, 0, 0, 0), 5);
        due("255", new KeysForSecond().feed(5, 255, 255, 255, 255, 255), 5);
    }

    @Says("BAD: n, any of the five;")
    static void promise5_anyOfTheFiveEvenBehindN() {
        for (int i = 0; i < 5; i++) {
            for (int v : new int[] {-1, 256, MIN, MAX}) {
                int[] a = {1, 32, 32, 32, 32, 32};
                a[i + 1] = v;
                refused(-2, "feed", a);
                a[0] = 5;
                refused(-2, "feed", a);
            }
        }
    }

    @Says("come behind THE TAPE's, one by one: how many it has.")
    static void promise5_theFirstNInTheirOrder() {
        KeysForSecond x = new KeysForSecond();
        due("1", x.feed(1, 't', 'X', 'X', 'X', 'X'), 1);
        due("2 more", x.feed(2, 'r', 'i', 'X', 'X', 'X'), 3);
        due("3 more", x.feed(3, 'e', 's', '1', 'X', 'X'), 6);
        due("4 more", x.feed(4, ';', 'p', 'a', 'y', 'X'), 10);
        due("5 more", x.feed(5, 's', '2', ';', 'g', 'o'), 15);
        due("5 more", x.feed(5, 'e', 's', '3', ';', ' '), 20);
        due("as they were fed", x.text(), 1);
    }

    @Says("FULL: they have not all room (none comes).")
    static void promise5_noneComesWhereNotAllHaveRoom() {
        for (int there = 156; there <= 160; there++) {
            for (int n = 1; n <= 5; n++) {
                KeysForSecond x = new KeysForSecond();
                tape(x, " ".repeat(there));
                boolean room = there + n <= 160;
                due(n + " behind " + there, x.feed(n, 32, 32, 32, 32, 32), room ? there + n : -4);
                due("bytes", x.count(5), room ? there + n : there);
            }
        }
        refusedIn(BoundaryTownTest::fullTape, -4, "feed", 2, 32, 32, 32, 32, 32);
    }

    /** A tape with room for one byte more, which is all blank but for a text. */
    private static KeysForSecond fullTape() {
        KeysForSecond x = people(0, 30, 0, 30);
        tape(x, "tries 3;pays 4;goes 5;" + " ".repeat(137));
        return x;
    }

    @Says("BAD: n, any of the five; FULL:")
    static void promise5_badAheadOfFull() {
        for (int[] a : new int[][] {{6, 1, 1, 1, 1, 1}, {0, 1, 1, 1, 1, 1}, {5, 1, 1, 1, 1, 256}, {2, -1, 1, 1, 1, 1}}) {
            refusedIn(BoundaryTownTest::fullTape, -2, "feed", a);
        }
    }

    @Says("A TEXT is read from THE TAPE (160 bytes at most).")
    static void promise5_roomFor160AgainBehindAText() {
        KeysForSecond x = new KeysForSecond();
        tape(x, " ".repeat(160));
        due("full", x.feed(1, 32, 32, 32, 32, 32), -4);
        x.text();
        tape(x, " ".repeat(158));
        due("two more", x.feed(2, 32, 32, 32, 32, 32), 160);
        due("full again", x.feed(1, 32, 32, 32, 32, 32), -4);
    }

    // ---- 6: text

    private static void fault(String bytes, int place) {
        KeysForSecond x = new KeysForSecond();
        due("text '" + bytes + "'", text(x, bytes), -100 - place);
    }

    private static void fine(String bytes) {
        KeysForSecond x = new KeysForSecond();
        due("text '" + bytes + "'", text(x, bytes), 1);
    }

    /** In each of the three parts, so that none is read another way. */
    private static void faultIn(String e, int place) {
        fault("tries " + e + ";pays 1;goes 1;", 6 + place);
        fault("tries 1;pays " + e + ";goes 1;", 13 + place);
        fault("tries 1;pays 1;goes " + e + ";", 20 + place);
    }

    private static void fineIn(String e) {
        fine("tries " + e + ";pays 1;goes 1;");
        fine("tries 1;pays " + e + ";goes 1;");
        fine("tries 1;pays 1;goes " + e + ";");
    }

    @Says("(the text's size, if it ends too early)")
    static void promise6_endsTooEarly() {
        String all = "tries 1 ;\npays (2); goes - 3 ;";
        for (int size = 0; size < all.length(); size++) {
            String bytes = all.substring(0, size);
            int word = size;
            while (word > 0 && Character.isLetter(bytes.charAt(word - 1))) {
                word--;
            }
            String last = bytes.substring(word);
            boolean cut = !last.isEmpty() && !last.equals("tries") && !last.equals("pays") && !last.equals("goes");
            fault(bytes, cut ? word : size);
        }
        fine(all);
    }

    @Says("(the text's size, if it ends too early)")
    static void promise6_blanksAtItsEndAreOfItsSize() {
        fault("tries 1  ", 9);
        fault("tries 1;pays 1;goes 1\n\n", 23);
        fault(" ".repeat(160), 160);
        fault("tries" + " ".repeat(155), 160);
        fault("tries" + " ".repeat(154) + "1", 160);
        fault("tries" + " ".repeat(154) + "+", 159);
    }

    @Says("(the text's size, if it ends too early)")
    static void promise6_anEmptyTape() {
        fault("", 0);
        KeysForSecond x = new KeysForSecond();
        x.text();
        due("and again", x.text(), -100);
    }

    @Says("(the text's size, if it ends too early)")
    static void promise6_nothingOfAnEarlierTape() {
        String[][] rows = {{"tries doorx", "tries door"}, {"tries 12345", "tries 1234"}, {"tries 1   x", "tries 1 "},
            {"tries 1 ;pays", "tries 1"}, {"tries", ""}, {"tries (1", "tries ("}};
        for (String[] row : rows) {
            KeysForSecond x = new KeysForSecond();
            text(x, row[0]);
            due("'" + row[1] + "' behind '" + row[0] + "'", text(x, row[1]), -100 - row[1].length());
        }
    }

    @Says("THE TAPE (160 bytes at most)")
    static void promise6_aTokenAtTheEndOf160Bytes() {
        String[] ends = {"tries", "tries 1234", "tries minute", "tries 1;pays 1;goes", "tries 1;pays 1;goes 1", "tries not",
            "tries 1 or", "tries 1;", "tries (", "tries 1<"};
        for (String end : ends) {
            fault(" ".repeat(160 - end.length()) + end, 160);
        }
        fault(" ".repeat(150) + "tries doox", 156);
        fault(" ".repeat(149) + "tries 12345", 155);
        fault(" ".repeat(159) + "x", 159);
        fault(" ".repeat(159) + "1", 159);
        fine(" ".repeat(138) + "tries 1;pays 1;goes 1;");
    }

    @Says("A TEXT is read from THE TAPE (160 bytes at most).")
    static void promise6_160Bytes() {
        KeysForSecond x = new KeysForSecond();
        String bytes = "tries1;pays2;goes" + "1+".repeat(71) + "1";
        due("its size", bytes.length(), 160);
        due("without its end", text(x, bytes), -260);
        bytes = "tries1;pays2;goes" + "1+".repeat(70) + "12;";
        due("its size", bytes.length(), 160);
        due("text", text(x, bytes), 1);
        x.force(1);
        x.citizen(0, 0);
        due("all of it is read", x.asks(2, 0), 82);
    }

    @Says("TEXT: tries E ; pays E ; goes E ;")
    static void promise6_nothingBehindAText() {
        fine("tries 1;pays 1;goes 1; \n ");
        fault("tries 1;pays 1;goes 1;;", 22);
        fault("tries 1;pays 1;goes 1; 1", 23);
        fault("tries 1;pays 1;goes 1;tries 1;", 22);
        fault("tries 1;pays 1;goes 1;\r", 22);
    }

    @Says("TEXT: tries E ; pays E ; goes E ;")
    static void promise6_allThreeInTheirOrder() {
        fault("pays 1;", 0);
        fault("goes 1;", 0);
        fault("tries 1;goes 1;", 8);
        fault("tries 1;tries 1;", 8);
        fault("tries 1;pays 1;pays 1;", 15);
        fault("tries 1;pays 1;tries 1;", 15);
        fault("1;", 0);
        fault(";", 0);
        faultIn("", 0);
    }

    @Says("FAULT: the place of the first byte of the first TOKEN that can't stand there")
    static void promise6_eachWordWhereItCantStand() {
        String[] words = {"tries", "pays", "goes", "or", "and", "not", "door", "eggs", "minute", "tried", "came", "more"};
        for (int w = 0; w < words.length; w++) {
            String word = words[w];
            if (w == 3 || w == 4) {
                fineIn("1 " + word + " 1");
            } else {
                faultIn("1 " + word + " 1", 2);
            }
            if (w == 5) {
                fineIn(word + " 1");
            } else {
                faultIn(word + " 1", w < 5 ? 0 : word.length() + 1);
            }
            if (w < 6) {
                faultIn("1+" + word + " 1", 2);
            }
            String[] keys = {"tries", "pays", "goes"};
            for (int part = 0; part < 3; part++) {
                keys[part] = word;
                String bytes = keys[0] + " 1;" + keys[1] + " 1;" + keys[2] + " 1;";
                int place = part == 0 ? 0 : part == 1 ? 8 : 15;
                if (w == part) {
                    fine(bytes);
                } else {
                    fault(bytes, place);
                }
                keys[part] = words[part];
            }
            fault("tries 1;pays 1;goes 1;" + word, 22);
        }
    }

    @Says("also of a byte that begins none")
    static void promise6_eachByteAheadOfAnE() {
        for (int b = 0; b < 256; b++) {
            String bytes = "tries " + (char) b + "1;pays 1;goes 1;";
            boolean blank = b == 32 || b == 10;
            boolean digit = b >= '0' && b <= '9';
            if (blank || digit || b == '-') {
                fine(bytes);
            } else {
                fault(bytes, b == '(' ? 8 : 6);
            }
        }
    }

    @Says("also of a byte that begins none")
    static void promise6_eachByteBehindAnE() {
        for (int b = 0; b < 256; b++) {
            String bytes = "tries 1" + (char) b + "1;pays 1;goes 1;";
            boolean digit = b >= '0' && b <= '9';
            if (digit || "+-*<=".indexOf(b) >= 0) {
                fine(bytes);
            } else {
                fault(bytes, b == 32 || b == 10 || b == ';' ? 8 : 7);
            }
        }
    }

    @Says("blanks (32, 10) may stand between.")
    static void promise6_blanks() {
        fine("tries1;pays2;goes3;");
        fine("\n \ntries\n1 ; pays  2\n\n;\ngoes - 3 ;\n");
        for (int b : new int[] {0, 9, 11, 12, 13, 31, 33, 160}) {
            fault("tries" + (char) b + "1;", 5);
        }
        faultIn("1 2", 2);
        faultIn("12 34", 3);
        faultIn("do or", 0);
        faultIn("door eggs", 5);
    }

    @Says("of a WORD that is neither KEY nor NAME")
    static void promise6_wordsAsLongAsCanBe() {
        fault("triespays 1;", 0);
        fault("tries1;payss 1;", 7);
        fault("trie 1;", 0);
        fault("triez 1;", 0);
        fault("sries 1;", 0);
        fault("pay", 0);
        for (String word : new String[] {"door", "eggs", "minute", "tried", "came", "more"}) {
            fineIn(word);
            faultIn(word + "s", 0);
            faultIn("a" + word, 0);
            faultIn(word.substring(1), 0);
            faultIn(word.substring(0, word.length() - 1), 0);
            faultIn(word + word, 0);
            faultIn("A" + word, 0);
            faultIn(word + "A", word.length());
            faultIn(word + "1", word.length());
        }
        for (String word : new String[] {"o", "n", "a", "an", "no", "x", "ors", "ands", "nots", "law", "kind", "people"}) {
            faultIn("1 " + word + " 1", 2);
            faultIn(word, 0);
        }
    }

    @Says("TOKENS, each as long as can be: WORDS (as many letters a .. z as stand there)")
    static void promise6_lettersAToZ() {
        for (char c = 'a'; c <= 'z'; c++) {
            faultIn("door" + c, 0);
            faultIn(c + "door", 0);
            faultIn("1" + c, 1);
        }
        for (char c : new char[] {'`', '{', '@', 'A', 'Z', '[', 127, 225}) {
            faultIn("door" + c, 4);
            faultIn(c + "door", 0);
        }
    }

    @Says("NUMBERS (as many digits as stand there; more than 4 are too long)")
    static void promise6_digits0To9() {
        for (char c = '0'; c <= '9'; c++) {
            fineIn("12" + c);
            fineIn(c + "12");
            faultIn("1234" + c, 0);
            faultIn(c + "door", 1);
            faultIn("door" + c, 4);
        }
        faultIn("1/", 1);
        faultIn("1:", 1);
        faultIn("/1", 0);
        faultIn(":1", 0);
        fineIn("1234+1234");
    }

    @Says("SIGNS ( ) ; + - * < = ; blanks (32, 10) may stand between.")
    static void promise6_eachSignIsAToken() {
        fineIn("1+--1");
        faultIn("1<<1", 2);
        faultIn("1==1", 2);
        faultIn("1=<1", 2);
        faultIn("1**1", 2);
        faultIn("1+*1", 2);
        faultIn("(-)", 2);
        for (char c : new char[] {'\'', ',', '.', '/', ':', '>', '!', '&', '|', '[', ']', '{', '}', '%'}) {
            faultIn("1" + c + "1", 1);
        }
    }

    @Says("FAULT: the place of the first byte of the first TOKEN that can't stand there")
    static void promise6_theFirstByteOfTheToken() {
        fault("  \n  pays 1;", 5);
        fault("tries \n  eggss;", 9);
        fault("tries   12345;", 8);
        fault("tries 1  minute;", 9);
        fault("tries 1;pays 1;  goess 1;", 17);
    }

    @Says("more than 4 are too long")
    static void promise6_numbersOfFiveDigits() {
        fineIn("9999");
        fineIn("0000");
        faultIn("10000", 0);
        faultIn("00000", 0);
        faultIn("00001", 0);
        faultIn("1+12345", 2);
        faultIn("-99999", 1);
        fault("tries " + "1".repeat(154), 6);
    }

    @Says("of a WORD that is neither KEY nor NAME, a NUMBER that is too long")
    static void promise6_theFirstFaultOfSeveral() {
        fault("tries 1 x 12345", 8);
        fault("tries 12345 x", 6);
        fault("tries ) \0", 6);
        fault("tries ; 12345", 6);
        fault("\1 tries", 0);
        fault("tries ((((((12345", 11);
    }

    @Says("a ( , a not, a - ahead of a ONE while 5 of these are open")
    static void promise6_fiveMayBeOpen() {
        fineIn("(((((1)))))");
        faultIn("((((((1))))))", 5);
        fineIn("not not not not not 1");
        faultIn("not not not not not not 1", 20);
        fineIn("- - - - - 1");
        faultIn("- - - - - - 1", 10);
        fineIn("not (-(-1))");
        faultIn("not (-(-(1)))", 8);
        faultIn("not (-(--1))", 8);
        faultIn("not (-(not(-1)))", 10);
        faultIn("not(((not(1))))", 9);
        faultIn("not(((not -1)))", 10);
        faultIn("not(((not not 1)))", 10);
    }

    @Says("(a ( till its ) , not and - till what they belong to ends).")
    static void promise6_whatHasEndedIsNotOpen() {
        fineIn("(1)+(1)+(1)+(1)+(1)+(1)+(((((1)))))");
        fineIn("-1*-1*-1*-1*-1*-1*-----1");
        fineIn("not 1 and not 1 or not 1 and not 1 or not 1 and not not not not not 1");
        fineIn("((((-1+(1)))))");
        fineIn("((((-1-1))))");
        faultIn("((((-(1)))))", 5);
        fineIn("((((not 1)and not 1)))");
        fineIn("((((not 1 or -1))))");
        fineIn("((((1)+-1)*(1)))");
    }

    @Says("not and - till what they belong to ends")
    static void promise6_notIsOpenOverAllOfItsSums() {
        fineIn("not not not not 1+(1)<(1)");
        faultIn("not not not not 1+(-1)", 19);
        faultIn("not not not not not 1<-1", 22);
        fineIn("not not not not 1<-1");
        fineIn("not not not not not 1 or -1");
        fineIn("not not not not not 1 and (1)");
        faultIn("not not not not not 1=(1)", 22);
        faultIn("----(-1)", 5);
        fineIn("---(-1)");
        faultIn("---(--1)", 5);
        fineIn("----(1)-(1)");
        fineIn("-----1-(((((1)))))");
    }

    @Says("NOT: not NOT, or SUM, perhaps < or = and a SUM.")
    static void promise6_oneSignOfLikenessAtMost() {
        fineIn("1<2");
        fineIn("1=2");
        faultIn("1<2<3", 3);
        faultIn("1=2=3", 3);
        faultIn("1<2=3", 3);
        faultIn("1=2<3", 3);
        fineIn("(1<2)<3");
        fineIn("1<2 and 2<3 or 3=3");
        faultIn("1<=2", 2);
        faultIn("1<not 2", 2);
        faultIn("1=", 2);
        faultIn("<1", 0);
    }

    @Says("E: AND { or AND }. AND: NOT { and NOT }.")
    static void promise6_orAndAndBetweenTwo() {
        faultIn("or 1", 0);
        faultIn("and 1", 0);
        faultIn("1 or", 4);
        faultIn("1 and", 5);
        faultIn("1 or or 1", 5);
        faultIn("1 or and 1", 5);
        faultIn("1 not 1", 2);
        fineIn("1 or not 1 and not 1 or 1");
        fineIn("1or 1and 1");
    }

    @Says("SUM: TERM { + or - TERM }. TERM: ONE { * ONE }. ONE: a NUMBER, a NAME, - ONE, ( E ).")
    static void promise6_ones() {
        faultIn("+1", 0);
        faultIn("*1", 0);
        faultIn("1+", 2);
        faultIn("1-", 2);
        faultIn("1*", 2);
        faultIn("-", 1);
        faultIn("1++1", 2);
        faultIn("1**1", 2);
        fineIn("1--1");
        fineIn("1*-1");
        fineIn("1+-1");
        faultIn("-not 1", 1);
        faultIn("1+not 1", 2);
        faultIn("1*not 1", 2);
        faultIn("()", 1);
        faultIn("(1", 2);
        faultIn("1)", 1);
        faultIn("(1))", 3);
        faultIn("(1 1)", 3);
        fineIn("(1 or 1)");
        fineIn("-(not 1)");
        faultIn("tries", 0);
        faultIn("1 pays", 2);
    }

    @Says("THE TAPE, which is empty then (by a FAULT, too), is a TEXT: its number;")
    static void promise6_theTapeIsEmptyThen() {
        KeysForSecond x = new KeysForSecond();
        due("text", text(x, "tries 1;pays 1;goes 1;"), 1);
        due("no bytes", x.count(5), 0);
        due("fault", text(x, "tries 1;pays 1;goes;"), -119);
        due("no bytes by a fault", x.count(5), 0);
        due("texts", x.count(3), 2);
        due("nothing is left of it", text(x, "1;"), -100);
        due("a text", text(x, "tries 3;pays 4;goes 5;"), 2);
        x.citizen(0, 0);
        x.force(2);
        due("tries", x.asks(0, 0), 3);
        due("pays", x.asks(1, 0), 4);
        due("goes", x.asks(2, 0), 5);
    }

    @Says("-100 less the place of its FAULT.")
    static void promise6_aFaultLeavesTextsAndLaw() {
        KeysForSecond x = ruled("0", "7", "0-3", 0, 0);
        due("fault at its end", text(x, "tries 1;pays 2;goes 3;4"), -122);
        due("texts", x.count(3), 2);
        due("law", x.count(4), 1);
        due("tries", x.asks(0, 0), 0);
        due("pays", x.asks(1, 0), 7);
        due("goes", x.asks(2, 0), -3);
        due("no text 2", x.force(2), -2);
    }

    @Says("TEXTS are numbered from 0 on, 6 at most;")
    static void promise6_sixTexts() {
        KeysForSecond x = people(0, 0);
        for (int t = 1; t < 6; t++) {
            due("text " + t, text(x, "tries 1;pays " + t + "1;goes 1;"), t);
        }
        due("texts", x.count(3), 6);
        due("a seventh", text(x, "tries 1;pays 9;goes 1;"), -4);
        due("texts still", x.count(3), 6);
        for (int t = 5; t >= 1; t--) {
            x.force(t);
            due("each is its own", x.asks(1, 0), 10 * t + 1);
        }
        x.force(0);
        due("and the first", x.asks(1, 0), 2);
    }

    @Says("FULL (ahead of the FAULT; then THE TAPE stays).")
    static void promise6_fullAheadOfTheFault() {
        for (String bytes : new String[] {"", "tries 1;pays 9;goes 1;", "tries 1;pays", "x"}) {
            KeysForSecond x = new KeysForSecond();
            for (int t = 1; t < 6; t++) {
                text(x, "tries1;pays1;goes1;");
            }
            due("full", text(x, bytes), -4);
            due("the tape stays", x.count(5), bytes.length());
            due("full again", x.text(), -4);
            due("one more byte", x.feed(1, 32, 0, 0, 0, 0), bytes.length() + 1);
        }
    }

    @Says("FULL (ahead of the FAULT; then THE TAPE stays).")
    static void promise6_faultsTakeNoRoom() {
        KeysForSecond x = new KeysForSecond();
        for (int i = 0; i < 7; i++) {
            due("fault", text(x, "tries 1;pays 1;goes 1"), -121);
        }
        due("still a text", text(x, "tries 1;pays 1;goes 1;"), 1);
    }

    // ---- 7: force

    @Says("A TEXT is THE LAW: which was. BAD.")
    static void promise7_noSuchText() {
        for (int t : new int[] {-1, 3, 6, MIN, MAX}) {
            refused(-2, "force", t);
        }
        due("the last one", rich().force(2), 2);
    }

    @Says("A TEXT is THE LAW: which was. BAD.")
    static void promise7_theFirstTextAlone() {
        KeysForSecond x = new KeysForSecond();
        due("no text 1", x.force(1), -2);
        due("law 0 is the law already", x.force(0), 0);
        due("law", x.count(4), 0);
        text(x, "tries 1;pays 1;goes");
        due("none by a fault", x.force(1), -2);
    }

    @Says("TEXTS are numbered from 0 on, 6 at most;")
    static void promise7_theSixth() {
        KeysForSecond x = people(0, 0);
        for (int t = 1; t < 6; t++) {
            text(x, "tries1;pays" + (10 + t) + ";goes1;");
        }
        due("no seventh", x.force(6), -2);
        due("the sixth", x.force(5), 0);
        due("as it says", x.asks(1, 0), 15);
        due("the first again", x.force(0), 5);
        due("as it says", x.asks(1, 0), 2);
    }

    // ---- 8: asks

    @Says("-1000: none such.")
    static void promise8_noSuchPart() {
        for (int part : new int[] {-1, 3, MIN, MAX}) {
            refused(-1000, "asks", part, 0);
        }
    }

    @Says("-1000: none such.")
    static void promise8_noneSuch() {
        for (int p : new int[] {-1, 6, MIN, MAX}) {
            refused(-1000, "asks", 0, p);
            refused(-1000, "asks", 2, p);
        }
        due("nobody is there", new KeysForSecond().asks(0, 0), -1000);
        due("one is there", people(0, 0).asks(0, 1), -1000);
        due("neither", people(0, 0).asks(3, 1), -1000);
    }

    private static void says(String e, int tries, int pays, int goes) {
        KeysForSecond x = ruled(e, e, e, 0, 0);
        due("tries " + e, x.asks(0, 0), tries);
        due("pays " + e, x.asks(1, 0), pays);
        due("goes " + e, x.asks(2, 0), goes);
    }

    @Says("(tries, pays 0 .. 99, goes -99 .. 99, else the bound;")
    static void promise8_elseTheBound() {
        says("98", 98, 98, 98);
        says("99", 99, 99, 99);
        says("100", 99, 99, 99);
        says("9999", 99, 99, 99);
        says("9999*9999", 99, 99, 99);
        says("0", 0, 0, 0);
        says("-1", 0, 0, -1);
        says("-98", 0, 0, -98);
        says("-99", 0, 0, -99);
        says("-100", 0, 0, -99);
        says("-9999*9999", 0, 0, -99);
        says("8192*8192*32", 0, 0, -99);
        says("8192*8192*32-1", 99, 99, 99);
    }

    @Says("tries: so, if that isn't 0)")
    static void promise8_triesBelow0IsTheBound0() {
        int[] due = {0, 0, 1, 1};
        String[] tries = {"-1", "0", "1", "100"};
        for (int i = 0; i < 4; i++) {
            due("tries " + tries[i], ruled(tries[i], "1", "1", 0, 0).told(0, 5), due[i]);
        }
    }

    /** What an E says, if that is -99 .. 99. */
    private static void value(String e, int want) {
        due(e, ruled("1", "1", e, 0, 0).asks(2, 0), want);
    }

    @Says("An E is an int (32 bits, wrapping)")
    static void promise8_32BitsWrapping() {
        value("8192*8192*64", 0);
        value("8192*8192*64+5", 5);
        value("8192*8192*32<0", 1);
        value("8192*8192*32-1<0", 0);
        value("8192*8192*32-1+1<0", 1);
        value("0-8192*8192*32=8192*8192*32", 1);
        value("-(8192*8192*32)=8192*8192*32", 1);
        value("8192*8192*32<8192*8192*32-1", 1);
        value("8192*8192*32-1<8192*8192*32", 0);
        value("9999*9999*9999*9999", 99);
        value("(8192*8192*16+8192*8192*16)*2", 0);
        value("8192*8192*32 and 1", 1);
        value("not 8192*8192*32", 0);
        value("8192*8192*64 or 0", 0);
    }

    @Says("of or, and, not, <, = 1 or 0 (what is not 0 is true).")
    static void promise8_whatIsNot0IsTrue() {
        value("5 or 0", 1);
        value("0 or -5", 1);
        value("0 or 0", 0);
        value("5 or 5", 1);
        value("5 and -5", 1);
        value("5 and 0", 0);
        value("0 and 5", 0);
        value("0 and 0", 0);
        value("not 0", 1);
        value("not 1", 0);
        value("not 5", 0);
        value("not -5", 0);
        value("not not 5", 1);
        value("1<2", 1);
        value("2<2", 0);
        value("3<2", 0);
        value("-1<0", 1);
        value("2=2", 1);
        value("2=3", 0);
        value("3=2", 0);
        value("-1=1", 0);
    }

    @Says("E: AND { or AND }. AND: NOT { and NOT }. NOT: not NOT, or SUM, perhaps < or = and a SUM.")
    static void promise8_whatBindsTighter() {
        value("1 or 0 and 0", 1);
        value("0 and 0 or 1", 1);
        value("not 1 or 1", 1);
        value("not 0 and 0", 0);
        value("not 1<0", 1);
        value("not 2=2", 0);
        value("1+1<3", 1);
        value("3<1+1", 0);
        value("1+2*3", 7);
        value("2*3+1", 7);
        value("9-3-2", 4);
        value("9-3+2", 8);
        value("-2*3", -6);
        value("-2-3", -5);
        value("-(2-3)", 1);
        value("2--3", 5);
        value("1+(1<2)", 2);
    }

    @Says("a - ahead of a ONE while 5 of these are open")
    static void promise8_asDeepAsATextCanBe() {
        value("0or1and5=3+2*(0or1and5=3+2*(0or1and5=3+2*(0or1and5=3+2*(0or1and5=3+2*(0or1and5=3+2*1)))))", 1);
        value("0or1and5=3+2*(0or1and5=3+2*(0or1and5=3+2*(0or1and5=3+2*(0or1and5=3+2*(0or1and5=3+2*2)))))", 0);
        value("9-(8-(7-(6-(5-(4-1-1)))))", 9 - (8 - (7 - (6 - (5 - (4 - 1 - 1))))));
        value("-----5", -5);
        value("not not not not not 5", 0);
        value("(((((5)))))", 5);
    }

    @Says("in thought it may pass 9999); of the day: modulo 20.")
    static void promise8_minuteOfTheDay() {
        KeysForSecond x = ruled("1", "1", "minute", 0, 0);
        int[][] rows = {{0, 0}, {1, 1}, {19, 19}, {20, 0}, {21, 1}, {39, 19}, {40, 0}, {9979, 19}, {9980, 0}, {9999, 19}};
        for (int[] row : rows) {
            x.town(0, 0, row[0]);
            due("minute " + row[0], x.asks(2, 0), row[1]);
        }
    }

    @Says("tried: 1, if that DOOR has a FIRST, else 0;")
    static void promise8_triedIs1Or0() {
        KeysForSecond x = ruled("1", "1", "tried", 0, 700, 0, 700, 0, 0);
        due("no first", x.asks(2, 0), 0);
        x.town(2, 7, 0);
        due("oneself", x.asks(2, 0), 1);
        due("another one is", x.asks(2, 1), 1);
        due("of another door", x.asks(2, 2), 0);
        x.town(2, 7, 2);
        due("1, whoever it is", x.asks(2, 0), 1);
        x.town(2, 7, -1);
        due("none again", x.asks(2, 0), 0);
    }

    @Says("door: the DOOR one is AT; eggs: EGGS;")
    static void promise8_leastAndMostOfNames() {
        KeysForSecond x = ruled("door", "eggs", "more", 0, 0, 59, 799);
        for (int part = 0; part < 3; part++) {
            due("least " + part, x.asks(part, 0), 0);
        }
        due("door", x.asks(0, 1), 7);
        due("eggs", x.asks(1, 1), 99);
        due("more", x.asks(2, 1), 9);
    }

    @Says("came: CAME; more: MORE.")
    static void promise8_cameUpTo99() {
        KeysForSecond x = ruled("1", "came", "0", 0, 0, 0, 0);
        due("not yet", x.asks(1, 1), 0);
        x.twist(0);
        for (int i = 1; i <= 101; i++) {
            x.twist(1);
            due("came", x.asks(1, 1), Math.min(i, 99));
            x.twist(0);
        }
    }

    @Says("What part 0 tries, 1 pays, 2 goes says of one of PEOPLE (a number).")
    static void promise8_ofAllKindsAlike() {
        KeysForSecond x = ruled("5", "6", "7", 0, 0, 19, 0, 29, 0, 39, 0, 49, 0, 59, 0);
        for (int p = 0; p < 6; p++) {
            for (int part = 0; part < 3; part++) {
                due("part " + part + " of " + p, x.asks(part, p), 5 + part);
            }
        }
    }

    @Says("What is asked changes nothing, but where it is told.")
    static void promise8_askedChangesNothing() {
        for (int part = 0; part < 3; part++) {
            asked("asks", part, 0);
            asked("asks", part, 5);
        }
    }

    // ---- 9: citizen

    @Says("(kindMore: 10 times KIND, and MORE; doorEggs: 100 times the DOOR, and EGGS): the number. BAD;")
    static void promise9_kindMoreFrom0To59() {
        due("0", new KeysForSecond().citizen(0, 0), 0);
        due("59", new KeysForSecond().citizen(59, 0), 0);
        for (int v : new int[] {-1, 60, MIN, MAX}) {
            KeysForSecond x = people(0, 30);
            due("kindMore " + v, x.citizen(v, 0), -2);
            same("refused", x, people(0, 30));
        }
    }

    @Says("(kindMore: 10 times KIND, and MORE; doorEggs: 100 times the DOOR, and EGGS): the number. BAD;")
    static void promise9_doorEggsFrom0To799() {
        due("0", new KeysForSecond().citizen(0, 0), 0);
        due("799", new KeysForSecond().citizen(0, 799), 0);
        for (int v : new int[] {-1, 800, MIN, MAX}) {
            KeysForSecond x = people(0, 30);
            due("doorEggs " + v, x.citizen(0, v), -2);
            same("refused", x, people(0, 30));
        }
    }

    @Says("of a KIND, with MORE (0 .. 9); AT a DOOR, with EGGS (0 .. 99)")
    static void promise9_allOfThemAtTheirEdges() {
        int[][] rows = {{0, 0, 0, 0, 0, 0}, {9, 99, 0, 9, 0, 99}, {10, 100, 1, 0, 1, 0}, {59, 799, 5, 9, 7, 99},
            {50, 700, 5, 0, 7, 0}, {49, 699, 4, 9, 6, 99}};
        KeysForSecond x = new KeysForSecond();
        for (int p = 0; p < 6; p++) {
            int[] row = rows[p];
            due("number", x.citizen(row[0], row[1]), p);
            due("kind", x.told(p, 3), row[2]);
            due("more", x.told(p, 4), row[3]);
            due("door", x.told(p, 0), row[4]);
            due("eggs", x.told(p, 1), row[5]);
        }
    }

    @Says("PEOPLE are numbered from 0 on, 6 at most")
    static void promise9_theSeventh() {
        KeysForSecond x = people(0, 0, 0, 0, 0, 0, 0, 0, 0, 0);
        due("the sixth", x.citizen(0, 0), 5);
        due("people", x.count(0), 6);
        refused(-4, "citizen", 0, 0);
        refused(-4, "citizen", 59, 799);
    }

    @Says("BAD; FULL.")
    static void promise9_badAheadOfFull() {
        refused(-2, "citizen", 60, 0);
        refused(-2, "citizen", 0, 800);
        refused(-2, "citizen", -1, -1);
    }

    @Says("CAME: how often one came in (0 .. 99; 0 as one comes)")
    static void promise9_cameIs0AsOneComes() {
        KeysForSecond x = people(0, 0, 0, 0);
        due("came", x.told(1, 2), 0);
        x.image();
        x.citizen(0, 0);
        x.twist(0);
        x.twist(2);
        due("came once", x.told(2, 2), 1);
        x.back();
        due("another one by that number", x.citizen(11, 107), 2);
        due("came", x.told(2, 2), 0);
        due("door", x.told(2, 0), 1);
        due("eggs", x.told(2, 1), 7);
        due("kind", x.told(2, 3), 1);
        due("more", x.told(2, 4), 1);
    }

    // ---- 10: put

    @Says("The DOOR one is AT (what 0), EGGS (1) becomes v: what it was.")
    static void promise10_doors0To7() {
        KeysForSecond x = people(0, 355, 0, 322);
        due("7", x.put(0, 0, 7), 3);
        due("0", x.put(0, 0, 0), 7);
        due("it is", x.told(0, 0), 0);
        due("eggs stay", x.told(0, 1), 55);
        due("the other one stays", x.told(1, 0), 3);
        for (int v : new int[] {-1, 8, MIN, MAX}) {
            refused(-7, "put", 0, 0, v);
            refused(-7, "put", 5, 0, v);
        }
    }

    @Says("The DOOR one is AT (what 0), EGGS (1) becomes v: what it was.")
    static void promise10_eggs0To99() {
        KeysForSecond x = people(0, 355, 0, 322);
        due("99", x.put(1, 1, 99), 22);
        due("0", x.put(1, 1, 0), 99);
        due("they are", x.told(1, 1), 0);
        due("door stays", x.told(1, 0), 3);
        due("the other one's stay", x.told(0, 1), 55);
        for (int v : new int[] {-1, 100, MIN, MAX}) {
            refused(-7, "put", 0, 1, v);
            refused(-7, "put", 5, 1, v);
        }
    }

    @Says("-7: what, v.")
    static void promise10_noSuchWhat() {
        for (int what : new int[] {-1, 2, MIN, MAX}) {
            refused(-7, "put", 0, what, 0);
            refused(-7, "put", 5, what, 100);
        }
    }

    @Says("-5: none such; -7: what, v.")
    static void promise10_noneSuchAheadOfAll() {
        for (int p : new int[] {-1, 6, MIN, MAX}) {
            refused(-5, "put", p, 0, 0);
            refused(-5, "put", p, 1, 100);
            refused(-5, "put", p, 2, 0);
        }
        due("nobody is there", new KeysForSecond().put(0, 0, 0), -5);
        due("one is there", people(0, 0).put(1, 0, 0), -5);
    }

    @Says("The DOOR one is AT (what 0), EGGS (1) becomes v: what it was.")
    static void promise10_noDoorIsTried() {
        KeysForSecond x = people(0, 0, 0, 0);
        x.put(0, 0, 1);
        due("first", x.door(1, 0), -1);
        due("the door left", x.door(0, 3), 2);
        due("the door come to", x.door(1, 3), 1);
    }

    // ---- 11: told

    @Says("-5: none such;")
    static void promise11_noneSuch() {
        for (int p : new int[] {-1, 6, MIN, MAX}) {
            refused(-5, "told", p, 0);
            refused(-5, "told", p, 8);
        }
        due("nobody is there", new KeysForSecond().told(0, 0), -5);
        due("one is there", people(0, 0).told(1, 5), -5);
    }

    @Says("-7: what.")
    static void promise11_noSuchWhat() {
        for (int what : new int[] {-1, 9, MIN, MAX}) {
            refused(-7, "told", 0, what);
            refused(-7, "told", 5, what);
        }
    }

    @Says("-5: none such; -7: what.")
    static void promise11_noneSuchAheadOfWhat() {
        refused(-5, "told", 6, 9);
        refused(-5, "told", -1, -1);
    }

    /** Whether one would try: of a law (0 or 1), at a minute, a door with a first or without. */
    private static void tries(int kind, int law, int minute, boolean first, int want) {
        for (int more : new int[] {0, 9}) {
            KeysForSecond x = ruled(law == 1 ? "1" : "0", "1", "1", 10 * kind + more, 30, 0, 130);
            x.town(0, 0, minute);
            x.town(2, 0, first ? 1 : -1);
            due("kind " + kind + " by " + law + " in " + minute + (first ? ", a first" : ", no first"), x.told(0, 5), want);
            if (first) {
                x.town(2, 0, 0);
                due("and oneself its first", x.told(0, 5), want);
            }
        }
    }

    @Says("0 CITIZEN: if so; that; 1, 0 or -1, as that is above 0, 0 or below.")
    static void promise11_aCitizenTriesIfTheTextSaysSo() {
        for (int minute = 0; minute < 2; minute++) {
            tries(0, 0, minute, false, 0);
            tries(0, 0, minute, true, 0);
            tries(0, 1, minute, false, 1);
            tries(0, 1, minute, true, 1);
        }
    }

    @Says("1 EARLY (a CITIZEN): TRIES as a CITIZEN, and always, if it has no FIRST;")
    static void promise11_anEarlyOneTriesAlwaysWithoutAFirst() {
        for (int minute = 0; minute < 2; minute++) {
            tries(1, 0, minute, false, 1);
            tries(1, 0, minute, true, 0);
            tries(1, 1, minute, false, 1);
            tries(1, 1, minute, true, 1);
        }
    }

    @Says("2 DOCTOR (a CITIZEN): TRIES as a CITIZEN, but never, if it has no FIRST;")
    static void promise11_aDoctorTriesNeverWithoutAFirst() {
        for (int minute = 0; minute < 2; minute++) {
            tries(2, 0, minute, false, 0);
            tries(2, 0, minute, true, 0);
            tries(2, 1, minute, false, 0);
            tries(2, 1, minute, true, 1);
        }
    }

    @Says("3 BANKER (an EARLY): TRIES as an EARLY, but never, if it has a FIRST;")
    static void promise11_aBankerTriesNeverWithAFirst() {
        for (int minute = 0; minute < 2; minute++) {
            tries(3, 0, minute, false, 1);
            tries(3, 0, minute, true, 0);
            tries(3, 1, minute, false, 1);
            tries(3, 1, minute, true, 0);
        }
    }

    @Says("4 BURGLAR (a DOCTOR): TRIES as a DOCTOR in even MINUTES, else just if it has no FIRST;")
    static void promise11_aBurglarTriesByTheMinute() {
        for (int even : new int[] {0, 2, 18, 20, 9998}) {
            tries(4, 0, even, false, 0);
            tries(4, 0, even, true, 0);
            tries(4, 1, even, false, 0);
            tries(4, 1, even, true, 1);
        }
        for (int odd : new int[] {1, 19, 21, 9999}) {
            tries(4, 0, odd, false, 1);
            tries(4, 0, odd, true, 0);
            tries(4, 1, odd, false, 1);
            tries(4, 1, odd, true, 0);
        }
    }

    @Says("(Whatever isn't told is as of the KIND above.")
    static void promise11_aRudeOneTriesAsACitizen() {
        for (int minute = 0; minute < 2; minute++) {
            tries(5, 0, minute, false, 0);
            tries(5, 0, minute, true, 0);
            tries(5, 1, minute, false, 1);
            tries(5, 1, minute, true, 1);
        }
    }

    private static void pays(int kindMore, String law, int want) {
        due("kind and more " + kindMore + " pays by " + law, ruled("1", law, "1", kindMore, 0).told(0, 6), want);
    }

    @Says("(tries, pays 0 .. 99, goes -99 .. 99, else the bound;")
    static void promise11_paysWithinItsBounds() {
        for (int kindMore : new int[] {0, 9, 10, 19, 30, 39}) {
            pays(kindMore, "0", 0);
            pays(kindMore, "-1", 0);
            pays(kindMore, "98", 98);
            pays(kindMore, "99", 99);
            pays(kindMore, "100", 99);
        }
    }

    @Says("PAYS MORE more.")
    static void promise11_aDoctorPaysMoreThanTheTextCanSay() {
        pays(20, "0", 0);
        pays(20, "-9", 0);
        pays(29, "-9", 9);
        pays(21, "0", 1);
        pays(20, "99", 99);
        pays(21, "99", 100);
        pays(29, "100", 108);
    }

    @Says("else just if it has no FIRST; PAYS 0.")
    static void promise11_aBurglarPays0() {
        pays(40, "99", 0);
        pays(49, "99", 0);
        pays(49, "0", 0);
        pays(49, "-9", 0);
    }

    @Says("5 RUDE (a CITIZEN): GOES 0; PAYS half (cut).")
    static void promise11_aRudeOnePaysHalfCut() {
        pays(50, "0", 0);
        pays(59, "1", 0);
        pays(59, "2", 1);
        pays(59, "3", 1);
        pays(59, "98", 49);
        pays(59, "99", 49);
        pays(59, "100", 49);
        pays(59, "-3", 0);
    }

    @Says("PAYS 0 at least.)")
    static void promise11_nobodyPaysLessThan0() {
        for (int kind = 0; kind < 6; kind++) {
            pays(10 * kind, "-1", 0);
            pays(10 * kind, "-9999", 0);
        }
    }

    private static void goes(int kindMore, String law, int minute, int want) {
        KeysForSecond x = ruled("1", "1", law, kindMore, 0);
        x.town(0, 0, minute);
        due("kind and more " + kindMore + " goes by " + law + " in " + minute, x.told(0, 7), want);
    }

    @Says("1, 0 or -1, as that is above 0, 0 or below.")
    static void promise11_citizensDoctorsBurglarsGoOneAtMost() {
        for (int kindMore : new int[] {0, 9, 20, 29, 40, 49}) {
            goes(kindMore, "1", 0, 11);
            goes(kindMore, "2", 1, 11);
            goes(kindMore, "100", 0, 11);
            goes(kindMore, "0", 0, 10);
            goes(kindMore, "-1", 1, 9);
            goes(kindMore, "-2", 0, 9);
            goes(kindMore, "-100", 0, 9);
        }
    }

    @Says("and always, if it has no FIRST; GOES 1.")
    static void promise11_anEarlyOneGoes1() {
        for (String law : new String[] {"1", "0", "-1"}) {
            goes(10, law, 0, 11);
            goes(19, law, 19, 11);
        }
    }

    @Says("GOES as an EARLY, if MINUTE of the day is below MORE, else 0 less that.")
    static void promise11_aBankerTurnsAtItsMore() {
        for (String law : new String[] {"1", "0", "-1"}) {
            goes(35, law, 0, 11);
            goes(35, law, 4, 11);
            goes(35, law, 5, 9);
            goes(35, law, 6, 9);
            goes(35, law, 19, 9);
            goes(35, law, 20, 11);
            goes(35, law, 24, 11);
            goes(35, law, 25, 9);
            goes(30, law, 0, 9);
            goes(30, law, 9980, 9);
            goes(31, law, 0, 11);
            goes(31, law, 1, 9);
            goes(39, law, 8, 11);
            goes(39, law, 9, 9);
            goes(39, law, 9980, 11);
            goes(39, law, 9999, 9);
        }
    }

    @Says("5 RUDE (a CITIZEN): GOES 0;")
    static void promise11_aRudeOneStays() {
        for (String law : new String[] {"99", "1", "0", "-1", "-99"}) {
            goes(50, law, 0, 10);
            goes(59, law, 19, 10);
        }
    }

    @Says("8 what a TRY of that DOOR would be now.")
    static void promise11_whatATryWouldBe() {
        KeysForSecond x = people(0, 700, 0, 700, 0, 0);
        due("no first", x.told(0, 8), 0);
        x.twist(0);
        due("oneself", x.told(0, 8), 1);
        due("another one", x.told(1, 8), 2);
        due("of another door", x.told(2, 8), 0);
        x.twist(1);
        due("no longer oneself", x.told(0, 8), 2);
        due("the second, who is its first now", x.told(1, 8), 1);
        x.town(2, 7, -1);
        due("a second, but no first", x.told(0, 8), 0);
        due("a second, but no first, of that one", x.told(1, 8), 0);
        KeysForSecond y = ruled("0", "1", "1", 0, 0);
        due("that one does not try", y.told(0, 5), 0);
        due("but it would be 0", y.told(0, 8), 0);
    }

    @Says("5 whether one TRIES now (1, 0)")
    static void promise11_triesIs1Or0() {
        for (int tries : new int[] {1, 2, 99, 100, 9999}) {
            due("tries " + tries, ruled("" + tries, "1", "1", 0, 0).told(0, 5), 1);
        }
        due("tries 0", ruled("0", "1", "1", 0, 0).told(0, 5), 0);
    }

    @Says("7 how many DOORS on one GOES (10 more than that)")
    static void promise11_goesIs10More() {
        String[] laws = {"-99", "-1", "0", "1", "99"};
        int[] due = {9, 9, 10, 11, 11};
        for (int i = 0; i < laws.length; i++) {
            due("goes " + laws[i], ruled("1", "1", laws[i], 0, 700).told(0, 7), due[i]);
        }
    }

    @Says("What 0 the DOOR one is AT, 1 EGGS, 2 CAME, 3 KIND, 4 MORE")
    static void promise11_leastAndMost() {
        KeysForSecond x = people(0, 0, 59, 799);
        int[] most = {7, 99, 0, 5, 9};
        for (int what = 0; what < 5; what++) {
            due("least of " + what, x.told(0, what), 0);
            due("most of " + what, x.told(1, what), most[what]);
        }
    }

    @Says("CAME: how often one came in (0 .. 99; 0 as one comes)")
    static void promise11_cameUpTo99() {
        KeysForSecond x = people(0, 0, 0, 0);
        x.twist(0);
        for (int i = 1; i <= 101; i++) {
            x.twist(1);
            due("came", x.told(1, 2), Math.min(i, 99));
            x.twist(0);
        }
    }

    @Says("(All told as it is then.)")
    static void promise11_toldAsItIsNow() {
        KeysForSecond x = ruled("tried", "eggs", "0-came", 0, 5, 0, 5);
        due("tries", x.told(1, 5), 0);
        due("pays", x.told(1, 6), 5);
        due("goes", x.told(1, 7), 10);
        x.twist(0);
        due("tries a tried door", x.told(1, 5), 1);
        x.twist(1);
        due("pays of what it found", x.told(1, 6), 10);
        due("goes back, since it came in", x.told(1, 7), 9);
    }

    @Says("What is asked changes nothing, but where it is told.")
    static void promise11_askedChangesNothing() {
        for (int what = 0; what <= 8; what++) {
            for (int p = 0; p < 6; p++) {
                asked("told", p, what);
            }
        }
    }
}
