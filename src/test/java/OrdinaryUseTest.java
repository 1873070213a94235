import java.io.IOException;

/** What the document says of ordinary use, promise by promise; what is due was counted by hand, but for days by lots. */
public final class OrdinaryUseTest extends BoundaryKit {
    public static void main(String[] args) throws IOException {
        runOrdinary(OrdinaryUseTest.class, 1, 39);
    }

    /**
     * One of each kind at door 0: a citizen (30 eggs), an early one (20), a doctor of more 3 (40), a banker of more 2
     * (15), a burglar (10), a rude one (25). By numbers, in the first three minutes:
     * minute 0, door 0: 0 is first; 1 pays it 2 and finds 10; 2 pays 1 5; 3 doesn't try; 4 pays nothing; 5 pays 4 1.
     * minute 1, door 1: 0 is first; 1 pays it 2 and finds 10; 2 pays 1 5; 3 and 4 don't try; 5 is at door 0, alone.
     * minute 2, door 2: 0 is first; 1 pays it 2 and finds 10; 2 pays 1 5; 3 doesn't try and goes back; 4 comes in.
     */
    private static KeysForSecond six() {
        return people(0, 30, 10, 20, 23, 40, 32, 15, 40, 10, 50, 25);
    }

    private static final int[][] EGGS_OF_SIX = {{30, 20, 40, 15, 10, 25}, {32, 33, 35, 15, 11, 24},
        {34, 46, 30, 15, 11, 24}, {36, 59, 25, 15, 11, 24}};
    private static final int[][] DOORS_OF_SIX = {{0, 0, 0, 0, 0, 0}, {1, 1, 1, 1, 1, 0}, {2, 2, 2, 2, 2, 0},
        {3, 3, 3, 1, 3, 0}};

    /** Two rude ones at door 0: each minute 0 has 31 eggs then, and 1, who found the 10, has 39. */
    private static KeysForSecond two() {
        return people(50, 30, 50, 30);
    }

    // ---- 1: a new object, and the whole

    @Says("Keys turn only for the second person: a town with eight doors, in a row, each with so much behind it, and up "
        + "to six people of kinds, at some door, with so many eggs, who try, minute by minute; a lock won't give to the "
        + "first hand of the day, gives to the second, if that is another one, and is shut again behind it; by a text "
        + "whether one tries, how many eggs one pays a first, which way one goes; who has tried which door first, who "
        + "came in where, when; at midnight all locks are reset; which two should go to which door, at which one should "
        + "stand, who should go round first, by how few tries all doors are opened; told minutes: the one that is "
        + "otherwise, of which kind one is, at which door one was, how many eggs one had, who was first, whose they are, "
        + "by which text; tries by lots; images.")
    static void promise1_theWholeInShort() {
        KeysForSecond x = people(0, 30, 0, 30);
        due("the lock won't give to the first hand", x.twist(0), 0);
        due("nor to the same hand again", x.twist(0), 1);
        due("it gives to the second", x.twist(1), 2);
        due("it is shut again behind it", x.told(1, 8), 1);
        due("but for another one", x.told(0, 8), 2);
        due("who has tried it first", x.door(0, 0), 1);
        due("who came in", x.door(0, 1), 1);
        x.town(0, 0, 19);
        due("both come in in the last minute", x.minute(), 3);
        due("at midnight all locks are reset", x.door(0, 0), -1);
        wholeAtNoon(x);
        toldOfTheWhole(x);
        due("an image", x.image(), 2);
        x.minute();
        due("back", x.back(), 2);
        due("to the minute", x.count(1), 20);
    }

    /** 0 has 32 eggs, 1 has 38; both are at door 1 and no door has a first. */
    private static void wholeAtNoon(KeysForSecond x) {
        due("0 first, 1 comes in, at door 1", x.pair(0), 11);
        due("38, less 2, and 10", x.pair(1), 46);
        due("stand where 1 comes in", x.stand(0, 1, 0), 1);
        due("32 and 2", x.stand(0, 1, 1), 34);
        due("nobody's round is worth it", x.rounds(1, 0), -1);
        due("one door is opened", x.rounds(1, 1), 1);
        due("two tries for each door", x.tries(0), 16);
        due("when", x.when(1), 1);
        due("who pays what", x.asks(1, 0), 2);
        x.town(2, 2, 0);
        due("seed 0: 1 tries door 2", x.drawn(0, 1, 0), 4);
        x.town(2, 2, -1);
    }

    private static void toldOfTheWhole(KeysForSecond x) {
        row(x, 0, 0, 34, 36, 38);
        due("all as told", x.judge(0, 0), -1);
        due("0's eggs", x.whose(0), 1);
        due("a citizen or an early one", x.kinds(0, 0, 0), 3);
        due("at door 1", x.doors(0, 0), 2);
        due("by one number of eggs", x.baskets(0, 0, 0), 1);
        due("32", x.baskets(0, 0, 1), 32);
        due("0 itself or nobody was first", x.firsts(0, 0, 1), 65);
        due("by the one text there is", x.laws(0, 0), 1);
        x.cell(0, 2, 39);
        due("the third is otherwise", x.judge(0, 0), 2);
    }

    @Says("An object is used for at most 512 calls after it has been made; what later calls answer is free.")
    static void promise1_theLastCallIsAnsweredAsTheFirst() {
        KeysForSecond x = six();
        for (int i = 7; i < 512; i++) {
            due("call " + i, x.rounds(3, 1), 3);
        }
        due("call 512", x.minute(), 54);
    }

    // ---- 2 .. 4: the town

    @Says("0 PEOPLE, 1 MINUTE, 2 DOORS with a SECOND, 3 TEXTS, 4 THE LAW, 5 bytes of THE TAPE.")
    static void promise2_count() {
        KeysForSecond x = people(0, 30, 0, 30, 50, 130);
        minutes(x, 4);
        x.force(text(x, "tries 1; pays 3; goes 1;"));
        text(x, "tries 1; pays 4; goes 1;");
        tape(x, "tries");
        int[] due = {3, 4, 4, 3, 1, 5};
        for (int what = 0; what < 6; what++) {
            due("count " + what, x.count(what), due[what]);
        }
    }

    @Says("MINUTE (what 0; d does not matter), BEHIND of a DOOR (1), its FIRST (2; -1: none) becomes v: what it was.")
    static void promise3_town() {
        KeysForSecond x = people(0, 30, 0, 30, 0, 30);
        due("minute", x.town(0, 5, 123), 0);
        due("it is", x.count(1), 123);
        due("behind door 5", x.town(1, 5, 42), 10);
        due("it is", x.door(5, 2), 42);
        due("first of door 5", x.town(2, 5, 2), -1);
        due("it is", x.door(5, 0), 2);
        due("another first", x.town(2, 5, 1), 2);
        due("none", x.town(2, 5, -1), 1);
    }

    @Says("What 0 FIRST (-1), 1 SECOND (-1), 2 BEHIND, 3 who is AT it (bits) of a DOOR.")
    static void promise4_door() {
        KeysForSecond x = six();
        minutes(x, 3);
        int[][] due = {{5, 5, 0, 1 << 5}, {2, 2, 0, 1 << 3}, {4, 4, 0, 0}, {-1, -1, 10, 1 + 2 + 4 + 16}, {-1, -1, 10, 0}};
        for (int d = 0; d < due.length; d++) {
            for (int what = 0; what < 4; what++) {
                due("door " + d + ", what " + what, x.door(d, what), due[d][what]);
            }
        }
        x.town(2, 4, 0);
        due("a first that never came in", x.door(4, 0), 0);
        due("no second", x.door(4, 1), -1);
    }

    // ---- 5 .. 8: texts

    @Says("The first n (1 .. 5) of five bytes (0 .. 255 each) come behind THE TAPE's, one by one: how many it has.")
    static void promise5_feed() {
        KeysForSecond x = people(0, 30);
        due("tries", x.feed(5, 't', 'r', 'i', 'e', 's'), 5);
        due("1;", x.feed(3, ' ', '1', ';', 'x', 'x'), 8);
        due("pays", x.feed(4, 'p', 'a', 'y', 's', 'x'), 12);
        due("7;goe", x.feed(5, '7', ';', 'g', 'o', 'e'), 17);
        due("s", x.feed(1, 's', 'x', 'x', 'x', 'x'), 18);
        due("0;", x.feed(2, '0', ';', 'x', 'x', 'x'), 20);
        due("a text", x.text(), 1);
        x.force(1);
        due("pays", x.asks(1, 0), 7);
        due("goes", x.asks(2, 0), 0);
    }

    @Says("THE TAPE, which is empty then (by a FAULT, too), is a TEXT: its number; -100 less the place of its FAULT.")
    static void promise6_text() {
        KeysForSecond x = people(4, 342);
        due("text 1", text(x, "tries eggs < 50 and not tried;\npays 1 + door * 2;\ngoes 1 - 2 * tried;"), 1);
        due("the tape is empty", x.count(5), 0);
        due("text 2", text(x, "tries 0; pays 0; goes 0;"), 2);
        due("'north' is no name", text(x, "tries 1; pays 2; goes north;"), -122);
        due("the tape is empty, too", x.count(5), 0);
        due("two came to the first one", x.count(3), 3);
        x.force(1);
        due("tries, door 3 untried", x.asks(0, 0), 1);
        due("pays", x.asks(1, 0), 7);
        due("goes", x.asks(2, 0), 1);
        x.twist(0);
        due("tries, door 3 tried", x.asks(0, 0), 0);
        due("goes then", x.asks(2, 0), -1);
    }

    private static void worth(String e, int due) {
        KeysForSecond x = ruled("1", "1", e, 4, 342);
        due(e, x.asks(2, 0), due);
    }

    @Says("A TEXT is read from THE TAPE (160 bytes at most). TOKENS, each as long as can be: WORDS (as many letters a .. z "
        + "as stand there), NUMBERS (as many digits as stand there; more than 4 are too long), SIGNS ( ) ; + - * < = ; "
        + "blanks (32, 10) may stand between.")
    static void promise6_tokens() {
        KeysForSecond x = people(4, 342);
        due("no blank at all", text(x, "tries1;pays(2+door)*eggs<9999;goes-more=0;"), 1);
        due("a blank wherever one may stand", text(x, " tries 1 ;\npays ( 2\n+ door ) * eggs < 9999 ; goes - more = 0 ; "),
            2);
        for (int t = 1; t <= 2; t++) {
            x.force(t);
            due("5 * 42 is below 9999", x.asks(1, 0), 1);
            due("less 4 is not 0", x.asks(2, 0), 0);
        }
        due("a word is as long as can be", text(x, "tries 1; pays eggsmore; goes 1;"), -114);
        due("a number too", text(x, "tries 1; pays 12345; goes 1;"), -114);
    }

    @Says("TEXT: tries E ; pays E ; goes E ; E: AND { or AND }. AND: NOT { and NOT }. NOT: not NOT, or SUM, perhaps < or = "
        + "and a SUM. SUM: TERM { + or - TERM }. TERM: ONE { * ONE }. ONE: a NUMBER, a NAME, - ONE, ( E ).")
    static void promise6_howMuchBinds() {
        worth("0 and 0 or 1", 1);
        worth("0 and (0 or 1)", 0);
        worth("1 or 1 and 0", 1);
        worth("not 0 and 0", 0);
        worth("not (0 and 0)", 1);
        worth("not 3 < 2", 1);
        worth("(not 3) < 2", 1);
        worth("not 1 = 0", 1);
        worth("2 + 3 < 3 + 3", 1);
        worth("20 - 5 - 3 + 1", 13);
        worth("2 + 3 * 4 - 1", 13);
        worth("2 * - 3 * 4", -24);
        worth("- 2 - 3", -5);
        worth("eggs - door * 10", 12);
    }

    @Says("An E is an int (32 bits, wrapping): of or, and, not, <, = 1 or 0 (what is not 0 is true).")
    static void promise6_anInt() {
        worth("2 and 4", 1);
        worth("(2 or 4) + (2 < 4) + (4 = 4) + (not 0)", 4);
        worth("5 * (3 < 2)", 0);
        worth("9999 * 9999 * 9999 < 0", 1);
        worth("4096 * 4096 * 4096 + 7", 7);
    }

    @Says("FAULT: the place of the first byte of the first TOKEN that can't stand there (the text's size, if it ends too "
        + "early), also of a byte that begins none, of a WORD that is neither KEY nor NAME, a NUMBER that is too long, a "
        + "( , a not, a - ahead of a ONE while 5 of these are open (a ( till its ) , not and - till what they belong to ends).")
    static void promise6_faults() {
        KeysForSecond x = new KeysForSecond();
        due("pays without its sign ahead", text(x, "tries 1 pays 2;"), -108);
        due("the end", text(x, "tries 1; pays 2;"), -116);
        due("a byte", text(x, "tries 1 ! 2;"), -108);
        due("a word", text(x, "tries key;"), -106);
        due("a number", text(x, "tries 1 + 10000;"), -110);
        due("a sixth (", text(x, "tries ((((((1))))));"), -111);
        due("a sixth not", text(x, "tries not not not not not not 1;"), -126);
        due("a sixth -", text(x, "tries 1 - ------1;"), -115);
        due("of all three", text(x, "tries not (-(not (1 - 1)));"), -117);
        due("behind what is shut", text(x, "tries (((1))) * (((1))); pays not 1 and not --1; goes ---1 - 1;"), 1);
    }

    @Says("A TEXT is THE LAW: which was.")
    static void promise7_force() {
        KeysForSecond x = people(0, 30, 0, 30);
        text(x, "tries 0; pays 5; goes 0 - 1;");
        text(x, "tries 1; pays 6; goes 1;");
        due("was 0", x.force(1), 0);
        due("nobody tries", x.minute(), 0);
        due("all go back", x.door(7, 3), 3);
        due("was 1", x.force(2), 1);
        due("1 comes in", x.minute(), 2);
        due("and paid 6", x.told(0, 1), 36);
        due("was 2", x.force(0), 2);
    }

    @Says("TEXTS are numbered from 0 on, 6 at most; TEXT 0, at first, and THE LAW: tries 1 ; pays 2 ; goes 1 ;")
    static void promise7_textsByNumber() {
        KeysForSecond x = people(0, 30);
        for (int t = 1; t < 6; t++) {
            due("text " + t, text(x, "tries 0; pays 1" + t + "; goes 0;"), t);
        }
        for (int t = 5; t > 0; t--) {
            x.force(t);
            due("pays by text " + t, x.asks(1, 0), 10 + t);
        }
        x.force(0);
        due("tries by text 0", x.asks(0, 0), 1);
        due("pays by text 0", x.asks(1, 0), 2);
        due("goes by text 0", x.asks(2, 0), 1);
    }

    @Says("What part 0 tries, 1 pays, 2 goes says of one of PEOPLE (a number).")
    static void promise8_asks() {
        KeysForSecond x = ruled("9", "8", "7", 50, 330, 23, 440);
        for (int p = 0; p < 2; p++) {
            due("tries", x.asks(0, p), 9);
            due("pays, whatever the kind", x.asks(1, p), 8);
            due("goes, whatever the kind", x.asks(2, p), 7);
        }
    }

    @Says("(tries, pays 0 .. 99, goes -99 .. 99, else the bound; tries: so, if that isn't 0), of one of PEOPLE: door: the "
        + "DOOR one is AT; eggs: EGGS; minute: MINUTE of the day; tried: 1, if that DOOR has a FIRST, else 0; came: CAME; "
        + "more: MORE.")
    static void promise8_names() {
        String[] names = {"door", "eggs", "minute", "tried", "came", "more"};
        int[] of0 = {3, 41, 7, 1, 0, 4};
        int[] of1 = {3, 59, 7, 1, 1, 0};
        int[] of2 = {5, 11, 7, 0, 0, 9};
        for (int i = 0; i < names.length; i++) {
            KeysForSecond x = people(4, 340, 50, 350, 9, 511);
            x.twist(0);
            x.twist(1);
            x.town(0, 0, 127);
            x.force(text(x, "tries " + names[i] + "; pays " + names[i] + " * 50; goes - " + names[i] + " * 50;"));
            int[][] due = {of0, of1, of2};
            for (int p = 0; p < 3; p++) {
                due(names[i] + " of " + p, x.asks(0, p), due[p][i]);
                due("50 times that, 99 at most", x.asks(1, p), Math.min(99, 50 * due[p][i]));
                due("as much below 0", x.asks(2, p), -Math.min(99, 50 * due[p][i]));
                due("whether one tries", x.told(p, 5), due[p][i] == 0 ? 0 : 1);
            }
        }
    }

    @Says("NAMES: door eggs minute tried came more.")
    static void promise8_sixNames() {
        KeysForSecond x = ruled("1", "door + eggs + minute + tried + came + more", "1", 4, 342);
        x.town(0, 0, 5);
        due("3 and 42 and 5 and 4", x.asks(1, 0), 54);
    }

    // ---- 9 .. 11: people

    @Says("One of PEOPLE (kindMore: 10 times KIND, and MORE; doorEggs: 100 times the DOOR, and EGGS): the number.")
    static void promise9_citizen() {
        KeysForSecond x = new KeysForSecond();
        due("a doctor", x.citizen(23, 345), 0);
        due("a banker", x.citizen(37, 600), 1);
        int[][] due = {{3, 45, 0, 2, 3}, {6, 0, 0, 3, 7}};
        for (int p = 0; p < 2; p++) {
            for (int what = 0; what < 5; what++) {
                due("told " + what + " of " + p, x.told(p, what), due[p][what]);
            }
        }
    }

    @Says("PEOPLE are numbered from 0 on, 6 at most: of a KIND, with MORE (0 .. 9); AT a DOOR, with EGGS (0 .. 99), CAME: "
        + "how often one came in (0 .. 99; 0 as one comes).")
    static void promise9_numberedFrom0() {
        KeysForSecond x = new KeysForSecond();
        for (int p = 0; p < 6; p++) {
            due("citizen " + p, x.citizen(10 * p + p + 1, 100 * p + 90 + p), p);
            due("came", x.told(p, 2), 0);
        }
        for (int p = 0; p < 6; p++) {
            due("door of " + p, x.told(p, 0), p);
            due("eggs of " + p, x.told(p, 1), 90 + p);
            due("kind of " + p, x.told(p, 3), p);
            due("more of " + p, x.told(p, 4), p + 1);
        }
    }

    @Says("The DOOR one is AT (what 0), EGGS (1) becomes v: what it was.")
    static void promise10_put() {
        KeysForSecond x = people(0, 345, 0, 677);
        due("door", x.put(0, 0, 5), 3);
        due("eggs", x.put(0, 1, 80), 45);
        due("door is", x.told(0, 0), 5);
        due("eggs are", x.told(0, 1), 80);
        due("the other one's door", x.told(1, 0), 6);
        due("the other one's eggs", x.told(1, 1), 77);
    }

    @Says("What 0 the DOOR one is AT, 1 EGGS, 2 CAME, 3 KIND, 4 MORE, 5 whether one TRIES now (1, 0), 6 how many EGGS one "
        + "PAYS, 7 how many DOORS on one GOES (10 more than that), 8 what a TRY of that DOOR would be now.")
    static void promise11_told() {
        KeysForSecond x = six();
        int[][] now = {{0, 30, 0, 0, 0, 1, 2, 11, 0}, {0, 20, 0, 1, 0, 1, 2, 11, 0}, {0, 40, 0, 2, 3, 0, 5, 11, 0},
            {0, 15, 0, 3, 2, 1, 2, 11, 0}, {0, 10, 0, 4, 0, 0, 0, 11, 0}, {0, 25, 0, 5, 0, 1, 1, 10, 0}};
        int[][] then = {{1, 32, 0, 0, 0, 1, 2, 11, 0}, {1, 33, 1, 1, 0, 1, 2, 11, 0}, {1, 35, 1, 2, 3, 0, 5, 11, 0},
            {1, 15, 0, 3, 2, 1, 2, 11, 0}, {1, 11, 1, 4, 0, 1, 0, 11, 0}, {0, 24, 1, 5, 0, 1, 1, 10, 1}};
        toldOf(x, now);
        x.minute();
        toldOf(x, then);
        x.put(0, 0, 0);
        due("another one's try of 5's door", x.told(0, 8), 2);
    }

    private static void toldOf(KeysForSecond x, int[][] due) {
        for (int p = 0; p < due.length; p++) {
            for (int what = 0; what < 9; what++) {
                due("told " + what + " of " + p + " in minute " + x.count(1), x.told(p, what), due[p][what]);
            }
        }
    }

    @Says("KINDS: whether one TRIES, the text saying so, the DOOR having a FIRST or not; how many EGGS one PAYS, the text "
        + "saying so many; how many DOORS on one GOES, the text saying so. 0 CITIZEN: if so; that; 1, 0 or -1, as that is "
        + "above 0, 0 or below. 1 EARLY (a CITIZEN): TRIES as a CITIZEN, and always, if it has no FIRST; GOES 1. 2 DOCTOR "
        + "(a CITIZEN): TRIES as a CITIZEN, but never, if it has no FIRST; PAYS MORE more. 3 BANKER (an EARLY): TRIES as an "
        + "EARLY, but never, if it has a FIRST; GOES as an EARLY, if MINUTE of the day is below MORE, else 0 less that. 4 "
        + "BURGLAR (a DOCTOR): TRIES as a DOCTOR in even MINUTES, else just if it has no FIRST; PAYS 0. 5 RUDE (a CITIZEN): "
        + "GOES 0; PAYS half (cut). (Whatever isn't told is as of the KIND above. PAYS 0 at least.)")
    static void promise11_kinds() {
        // Of each kind: tries untried, tried, as the text says so; the same as it says not; each in even, odd minutes.
        int[][] tries = {{1, 1, 0, 0, 1, 1, 0, 0}, {1, 1, 1, 0, 1, 1, 1, 0}, {0, 1, 0, 0, 0, 1, 0, 0},
            {1, 0, 1, 0, 1, 0, 1, 0}, {0, 1, 0, 0, 1, 0, 1, 0}, {1, 1, 0, 0, 1, 1, 0, 0}};
        int[] pays = {9, 9, 13, 9, 0, 4};
        // By a text that says 5, 0, -5, in minute 3 (below more) and 4 of the day.
        int[][] goes = {{1, 0, -1, 1, 0, -1}, {1, 1, 1, 1, 1, 1}, {1, 0, -1, 1, 0, -1}, {1, 1, 1, -1, -1, -1},
            {1, 0, -1, 1, 0, -1}, {0, 0, 0, 0, 0, 0}};
        for (int kind = 0; kind < 6; kind++) {
            for (int i = 0; i < 8; i++) {
                KeysForSecond x = ruled(i / 2 % 2 == 0 ? "1" : "0", "9", "1", 10 * kind + 4, 330, 0, 0);
                x.town(0, 0, 42 + i / 4);
                x.town(2, 3, i % 2 == 0 ? -1 : 1);
                due("kind " + kind + " tries, case " + i, x.told(0, 5), tries[kind][i]);
            }
            due("kind " + kind + " pays", ruled("1", "9", "1", 10 * kind + 4, 330).told(0, 6), pays[kind]);
            for (int i = 0; i < 6; i++) {
                KeysForSecond x = ruled("1", "9", i % 3 == 0 ? "5" : i % 3 == 1 ? "0" : "-5", 10 * kind + 4, 330);
                x.town(0, 0, 63 + i / 3);
                due("kind " + kind + " goes, case " + i, x.told(0, 7), 10 + goes[kind][i]);
            }
        }
    }

    // ---- 12 .. 17: tries, minutes

    @Says("A TRY of the DOOR one is AT, truly: what it is.")
    static void promise12_twist() {
        KeysForSecond x = six();
        due("a first hand", x.twist(3), 0);
        due("the same hand", x.twist(3), 1);
        due("a second hand", x.twist(5), 2);
        due("5 paid 1 and found 10", x.told(5, 1), 34);
        due("3 was paid", x.told(3, 1), 16);
        due("nothing is left", x.door(0, 2), 0);
        due("no minute passed", x.count(1), 0);
    }

    @Says("A TRY of a DOOR by one is 0, if it has no FIRST: one is its FIRST then; 1, if one is its FIRST oneself; else 2: one "
        + "comes in: FIRST gets as many EGGS of one as one PAYS, no more than one has, than FIRST has room for (99); then one "
        + "has so many of what is BEHIND more (and that is less), as one has room for; CAME is 1 more (99 at most); one is its "
        + "SECOND and its FIRST then.")
    static void promise12_aTry() {
        KeysForSecond x = people(0, 330, 23, 340, 50, 395);
        x.town(1, 3, 20);
        due("0 is first", x.twist(0), 0);
        due("first", x.door(3, 0), 0);
        due("again", x.twist(0), 1);
        due("1 comes in", x.twist(1), 2);
        due("it paid 5", x.told(0, 1), 35);
        due("and found 20", x.told(1, 1), 55);
        due("came", x.told(1, 2), 1);
        due("second", x.door(3, 1), 1);
        due("first then", x.door(3, 0), 1);
        x.town(1, 3, 20);
        due("2 comes in", x.twist(2), 2);
        due("it paid 1", x.told(1, 1), 56);
        due("and had room for 5", x.told(2, 1), 99);
        due("15 are left", x.door(3, 2), 15);
        due("second then", x.door(3, 1), 2);
    }

    @Says("So many (much; 0 .. 99) of one's EGGS are another one's, truly: how many that one has then.")
    static void promise13_give() {
        KeysForSecond x = six();
        due("7 of 2's are 3's", x.give(2, 3, 7), 22);
        due("2 has", x.told(2, 1), 33);
        due("3 has", x.told(3, 1), 22);
        due("2 of 3's are 2's again", x.give(3, 2, 2), 35);
        due("3 has", x.told(3, 1), 20);
    }

    @Says("A MINUTE, truly: who comes in (bits).")
    static void promise14_minute() {
        KeysForSecond x = six();
        int[] cameIn = {0, 2 + 4 + 16 + 32, 2 + 4, 2 + 4 + 16};
        for (int n = 0; n <= 3; n++) {
            if (n > 0) {
                due("who comes in in minute " + (n - 1), x.minute(), cameIn[n]);
            }
            due("minute", x.count(1), n);
            for (int p = 0; p < 6; p++) {
                due("eggs of " + p + " behind " + n, x.told(p, 1), EGGS_OF_SIX[n][p]);
                due("door of " + p + " behind " + n, x.told(p, 0), DOORS_OF_SIX[n][p]);
            }
        }
        int[] came = {0, 3, 3, 0, 2, 1};
        for (int p = 0; p < 6; p++) {
            due("came of " + p, x.told(p, 2), came[p]);
        }
    }

    @Says("A MINUTE: one by one, by numbers: one TRIES (the DOOR one is AT), or not; then one is AT the DOOR so many on as one "
        + "GOES (round). (All told as it is then.) At last MINUTE is 1 more; is that of the day 0 then, no DOOR has a FIRST, "
        + "nor a SECOND, any more.")
    static void promise14_aMinute() {
        KeysForSecond x = ruled("door = 7", "tried + tried", "tried * 2 - 1", 0, 730, 0, 730, 0, 630);
        x.town(0, 0, 37);
        due("1 comes in at door 7", x.minute(), 2);
        due("0 tried it, so it goes on, as 1", x.door(0, 3), 3);
        due("2 didn't, so it goes back", x.told(2, 0), 5);
        due("1 paid 2", x.told(0, 1), 32);
        due("first", x.door(7, 0), 1);
        x.put(2, 0, 7);
        due("2 comes in in the last minute of the day", x.minute(), 4);
        due("0 and 1 go back from the untried door 0", x.door(7, 3), 3);
        due("2 goes on", x.told(2, 0), 0);
        due("minute", x.count(1), 39);
        due("second", x.door(7, 1), 2);
        due("both come in there", x.minute(), 3);
        due("midnight", x.count(1), 40);
        due("no first", x.door(7, 0), -1);
        due("no second", x.door(7, 1), -1);
    }

    @Says("n MINUTES (0 .. 60), in thought: DOORS (bits) with a SECOND then (what 0), with a FIRST (1), BEHIND of all, together "
        + "(2), the DOOR who is numbered what less 10 is AT (10 ..), EGGS of who is numbered what less 20 (20 ..), CAME of who "
        + "is numbered what less 30 (30 ..).")
    static void promise15_run() {
        KeysForSecond x = six();
        x.town(2, 6, 0);
        for (int n = 0; n <= 3; n++) {
            due("seconds behind " + n, x.run(n, 0), (1 << n) - 1);
            due("firsts behind " + n, x.run(n, 1), (1 << n) - 1 + 64);
            due("behind all behind " + n, x.run(n, 2), 80 - 10 * n);
            for (int p = 0; p < 6; p++) {
                due("door of " + p + " behind " + n, x.run(n, 10 + p), DOORS_OF_SIX[n][p]);
                due("eggs of " + p + " behind " + n, x.run(n, 20 + p), EGGS_OF_SIX[n][p]);
            }
        }
        due("came of 1", x.run(3, 31), 3);
        due("came of 4", x.run(3, 34), 2);
        due("came of 5", x.run(3, 35), 1);
        due("in thought", x.count(1), 0);
    }

    @Says("Behind how many MINUTES (0 .. 60) DOOR what (0 .. 7) has a SECOND, all DOORS have one (8), nobody is AT a DOOR alone "
        + "(9) for the first time; -1: not by then.")
    static void promise16_when() {
        KeysForSecond x = six();
        for (int d = 0; d < 8; d++) {
            due("door " + d, x.when(d), d + 1);
        }
        due("all doors", x.when(8), 8);
        due("nobody is alone now", x.when(9), 0);
        x.minute();
        due("door 0 has one", x.when(0), 0);
        due("door 1", x.when(1), 1);
        due("the banker comes back to 5's door behind 3", x.when(9), 3);
        due("by one alone never", people(0, 0).when(0), -1);
    }

    @Says("In which of the MINUTES to come (1 .. 60; 1: the next one) one comes in first; -1: in none. -5: none such.")
    static void promise17_waits() {
        KeysForSecond x = six();
        // 0 is always the first, till it finds the banker's hand at door 7, in minute 7.
        int[] due = {8, 1, 1, -1, 1, 1};
        for (int p = 0; p < 6; p++) {
            due("waits of " + p, x.waits(p), due[p]);
        }
        x.minute();
        int[] then = {7, 1, 1, -1, 2, 8};
        for (int p = 0; p < 6; p++) {
            due("waits of " + p + " behind a minute", x.waits(p), then[p]);
        }
        due("none such", x.waits(6), -5);
    }

    // ---- 18 .. 22: what is best

    @Says("100 times one, 10 times another one, and a DOOR such that, were there a TRY of it by the one now, and then one by the "
        + "other, that other one would have most EGGS, of like ones the first by that number (what 0; -1: there are no two), "
        + "how many (1; -1).")
    static void promise18_pair() {
        KeysForSecond x = six();
        due("2 pays 5 and finds 10 at any door", x.pair(0), 20);
        due("45", x.pair(1), 45);
        x.town(1, 3, 50);
        due("and 50 at door 3", x.pair(0), 23);
        due("85", x.pair(1), 85);
        x.put(5, 1, 39);
        due("5 pays 1 alone", x.pair(0), 53);
        due("88", x.pair(1), 88);
        due("there are no two", people(0, 30).pair(0), -1);
    }

    @Says("The DOOR such that, were one AT it now, one would have most EGGS behind n MINUTES (0 .. 40), of like ones the first "
        + "(what 0), how many (1).")
    static void promise19_stand() {
        KeysForSecond x = people(0, 30, 50, 330);
        due("1 minute: 1 pays 0 at door 3", x.stand(0, 1, 0), 3);
        due("31", x.stand(0, 1, 1), 31);
        // It comes to door 3 in the second minute, pays 2 to 1, finds 10, is paid 1.
        due("2 minutes: from door 2 on", x.stand(0, 2, 0), 2);
        due("39", x.stand(0, 2, 1), 39);
        due("it stays where it is", x.told(0, 0), 0);
    }

    @Says("Who, were there a TRY of all DOORS, by numbers, by that one now, would make most DOORS have a SECOND behind n MINUTES "
        + "(0 .. 40), if more than so, of like ones the first (what 0; -1: nobody), how many (1; as so).")
    static void promise20_rounds() {
        KeysForSecond x = people(0, 0, 50, 0);
        // Without a round 1 comes in at door 0 alone; behind 1's round 0 comes in wherever it comes.
        due("1's round", x.rounds(3, 0), 1);
        due("three", x.rounds(3, 1), 3);
        due("in one minute it is worth nothing", x.rounds(1, 0), -1);
        due("one", x.rounds(1, 1), 1);
        due("no door was tried", x.run(0, 1), 0);
    }

    @Says("By how few TRIES, of whomever there is, all DOORS have a SECOND (what 0; -1: there are fewer than two PEOPLE, and some "
        + "DOOR has none), how many have none (1).")
    static void promise21_tries() {
        KeysForSecond x = six();
        minutes(x, 3);
        due("two for each of five", x.tries(0), 10);
        due("five", x.tries(1), 5);
        x.town(2, 6, 0);
        due("one has a first", x.tries(0), 9);
        due("five still", x.tries(1), 5);
        due("one alone", people(0, 30).tries(0), -1);
    }

    @Says("EGGS of one, of those of all and what is BEHIND all DOORS, together: part 0 above, 1 below the line, in lowest terms.")
    static void promise22_share() {
        KeysForSecond x = six();
        minutes(x, 3);
        // 36 of 170 and 50.
        due("above", x.share(0, 0), 9);
        due("below", x.share(0, 1), 55);
        due("59 of 220, above", x.share(1, 0), 59);
        due("59 of 220, below", x.share(1, 1), 220);
    }

    // ---- 23 .. 30: told minutes

    @Says("A SHEET tells EGGS of one behind 1, 2, .. MINUTES (20 at most): the first number (from 0) that is otherwise; -1: none.")
    static void promise23_judge() {
        KeysForSecond x = six();
        for (int p = 0; p < 6; p++) {
            row(x, 0, 0, EGGS_OF_SIX[1][p], EGGS_OF_SIX[2][p], EGGS_OF_SIX[3][p]);
            due("none of " + p, x.judge(0, p), -1);
            x.cell(0, 2, 99);
            due("the last of " + p, x.judge(0, p), 2);
            x.cell(0, 1, 99);
            due("the middle one of " + p, x.judge(0, p), 1);
            x.cell(0, 0, 99);
            due("the first of " + p, x.judge(0, p), 0);
        }
    }

    @Says("KINDS (sort 0; bits 0 .. 5), MORE (1; bits 0 .. 9) by which, were they one's, that would be -1.")
    static void promise24_kinds() {
        KeysForSecond x = six();
        row(x, 0, 0, 33, 46, 59);
        due("1 pays 2 where there is a first, and goes on: as 0 .. 2", x.kinds(0, 1, 0), 7);
        due("whatever its more", x.kinds(0, 1, 1), 1023);
        row(x, 0, 0, 35, 30, 25);
        due("2 pays 5: a doctor", x.kinds(0, 2, 0), 4);
        due("of more 3", x.kinds(0, 2, 1), 8);
        row(x, 0, 0, 15, 15, 15);
        due("3 does not try, or comes behind all that is found and pays nothing: a banker, a burglar", x.kinds(0, 3, 0), 24);
    }

    @Says("DOORS (bits) by which, were one AT it now, that would be -1.")
    static void promise25_doors() {
        KeysForSecond x = six();
        row(x, 0, 0, 33, 46, 59);
        due("1 at door 0", x.doors(0, 1), 1);
        row(x, 0, 0, 15, 15);
        due("3 anywhere but at door 1, where 0 would pay it", x.doors(0, 3), 255 - 2);
        row(x, 0, 0, 25, 25);
        due("5 wherever nobody comes by", x.doors(0, 5), 4 + 8 + 16 + 32 + 64 + 128);
    }

    @Says("EGGS (0 .. 99) by which, had one so many now, that would be -1: how many (what 0), the least (1; -1: none).")
    static void promise26_baskets() {
        KeysForSecond x = six();
        row(x, 0, 0, 33, 46, 59);
        due("one number", x.baskets(0, 1, 0), 1);
        due("20", x.baskets(0, 1, 1), 20);
        row(x, 0, 0, 99);
        due("86 .. 99: less 2, and 10, and 5, till it is full", x.baskets(0, 1, 0), 14);
        due("86", x.baskets(0, 1, 1), 86);
        row(x, 0, 0, 1);
        due("none", x.baskets(0, 1, 0), 0);
        due("so none is the least", x.baskets(0, 1, 1), -1);
    }

    @Says("PEOPLE (bits 0 .. 5), and nobody (bit 6), by which, were that the FIRST of a DOOR now, that would be -1.")
    static void promise27_firsts() {
        KeysForSecond x = six();
        row(x, 0, 0, 33, 46, 59);
        due("0 itself or nobody", x.firsts(0, 1, 0), 1 + 64);
        due("anybody, of a door where nobody comes by", x.firsts(0, 1, 7), 127);
        due("of the next one: behind any other 0 comes in and finds all", x.firsts(0, 1, 1), 1 + 64);
    }

    @Says("PEOPLE (bits) of whom that is -1.")
    static void promise28_whose() {
        KeysForSecond x = six();
        for (int p = 0; p < 6; p++) {
            row(x, 0, 0, EGGS_OF_SIX[1][p], EGGS_OF_SIX[2][p], EGGS_OF_SIX[3][p]);
            due("whose are " + p + "'s", x.whose(0), 1 << p);
        }
        KeysForSecond like = people(50, 30, 50, 130, 50, 230);
        row(like, 0, 0, 30, 30, 30);
        due("all three's", like.whose(0), 7);
    }

    @Says("TEXTS (bits), were they THE LAW, by which that would be -1.")
    static void promise29_laws() {
        KeysForSecond x = six();
        text(x, "tries 1; pays 5; goes 1;");
        text(x, "tries eggs; pays 1 + tried; goes 7;");
        row(x, 0, 0, 32, 34, 36);
        due("1 pays 0 2 where there is a first, by both", x.laws(0, 0), 1 + 4);
        row(x, 0, 0, 35, 40, 45);
        due("5 by text 1", x.laws(0, 0), 2);
        row(x, 0, 0, 33, 46, 59);
        due("1 pays 3 more by text 1, but so does the doctor", x.laws(0, 1), 7);
    }

    @Says("A SHEET truly becomes EGGS of one behind 1, .., n MINUTES (0 .. 20; bytes): n.")
    static void promise30_film() {
        KeysForSecond x = two();
        due("four of 1's", x.film(2, 1, 4), 4);
        due("as told", x.judge(2, 1), -1);
        due("in thought", x.count(1), 0);
        due("39, 39 are a banker of more 9 with 39 eggs", x.peopleBy(2, 0, 1, 1), 1);
        due("kind", x.told(2, 3), 3);
        due("more", x.told(2, 4), 9);
        due("eggs", x.told(2, 1), 39);
        due("no fifth", x.cell(2, 4, 0), -12);
    }

    // ---- 31 .. 34: days by lots

    /** The lots of seed 0, as they are told in many a book: 48271 is the first. */
    private static final long[] LOTS_OF_0 = {48271L, 182605794L, 1291394886L, 1914720637L, 2078669041L, 407355683L,
        1105902161L, 854716505L};

    @Says("DAYS by a SEED (0 .. 99999), of n TRIES, in thought: each time two LOTS: a TRY of DOOR (the other LOT modulo 8) "
        + "by who is numbered LOT modulo 6, if there is one (no MINUTE passes). LOTS: the first is (SEED and 1) times 48271 modulo "
        + "2147483647, each further one the last times 48271 modulo 2147483647.")
    static void promise31_lots() {
        int[] who = {1, 0, 1, 5};
        int[] door = {2, 5, 3, 1};
        for (int i = 0; i < 4; i++) {
            due("who", LOTS_OF_0[2 * i] % 6, who[i]);
            due("door", LOTS_OF_0[2 * i + 1] % 8, door[i]);
            KeysForSecond x = six();
            x.town(2, door[i], (who[i] + 1) % 6);
            due("comes in by try " + i, x.drawn(0, i + 1, 0), 1 << door[i]);
            due("not ahead of it", x.drawn(0, i, 0), 0);
            x.town(2, door[i], who[i]);
            due("it is first oneself", x.drawn(0, i + 1, 1), 0);
            due("no minute passes", x.count(1), 0);
        }
        KeysForSecond five = people(0, 0, 0, 0, 0, 0, 0, 0, 0, 0);
        five.town(2, 1, 0);
        due("there is no 5", five.drawn(0, 4, 0), 0);
    }

    @Says("DAYS by a SEED of n TRIES (0 .. 60): DOORS (bits) with a SECOND then (what 0), how many TRIES were 2 (1).")
    static void promise31_drawn() {
        KeysForSecond x = six();
        x.town(2, 2, 0);
        x.town(2, 1, 4);
        due("doors 1 and 2", x.drawn(0, 4, 0), 6);
        due("two", x.drawn(0, 4, 1), 2);
        for (int seed : new int[] {1, 47, 6000, 99999}) {
            int[] day = dayOfSix(seed, 40);
            due("doors of seed " + seed, six().drawn(seed, 40, 0), day[0]);
            due("tries that were 2 of seed " + seed, six().drawn(seed, 40, 1), day[1]);
        }
    }

    /** Six people, new locks: doors with a second (bits) behind n tries, and how many came in. */
    private static int[] dayOfSix(int seed, int n) {
        int[] first = times(8, -1);
        int[] day = {0, 0};
        long lot = (seed + 1) * 48271L % 2147483647L;
        for (int i = 0; i < n; i++) {
            int who = (int) (lot % 6);
            lot = lot * 48271L % 2147483647L;
            int door = (int) (lot % 8);
            lot = lot * 48271L % 2147483647L;
            if (first[door] >= 0 && first[door] != who) {
                day[0] |= 1 << door;
                day[1]++;
            }
            first[door] = who;
        }
        return day;
    }

    @Says("By how many of so many (1 .. 40) seeds, SEED and each 1 more (they may pass 99999), of 16 TRIES, least (0 .. 8) or more "
        + "DOORS have a SECOND then: part 0 above, 1 below the line, in lowest terms.")
    static void promise32_odds() {
        for (int seed : new int[] {0, 500, 99990}) {
            for (int least = 0; least <= 8; least++) {
                int above = 0;
                for (int i = 0; i < 24; i++) {
                    above += Integer.bitCount(dayOfSix(seed + i, 16)[0]) >= least ? 1 : 0;
                }
                int big = 24;
                while (above % big != 0 || 24 % big != 0) {
                    big--;
                }
                due("above, " + least + " of " + seed, six().odds(seed, 24, least, 0), above / big);
                due("below, " + least + " of " + seed, six().odds(seed, 24, least, 1), 24 / big);
            }
        }
    }

    @Says("AN IMAGE is kept: how many of PEOPLE.")
    static void promise33_image() {
        KeysForSecond x = six();
        due("six", x.image(), 6);
        minutes(x, 3);
        due("six again", x.image(), 6);
        x.minute();
        due("back", x.back(), 6);
        due("to the later one", x.count(1), 3);
        due("eggs of 1", x.told(1, 1), 59);
    }

    @Says("All that it keeps is as in THE IMAGE, PEOPLE that came since are none: how many there are.")
    static void promise34_back() {
        KeysForSecond x = two();
        x.minute();
        x.image();
        minutes(x, 5);
        x.citizen(0, 777);
        due("two", x.back(), 2);
        due("1's eggs", x.told(1, 1), 39);
        due("nobody at door 7", x.door(7, 3), 0);
        due("the third is none", x.told(2, 0), -5);
    }

    @Says("AN IMAGE keeps all of DOORS, where all PEOPLE are, EGGS, CAME, how many there are, MINUTE, THE LAW.")
    static void promise34_allThatItKeeps() {
        KeysForSecond x = six();
        text(x, "tries 1; pays 5; goes - 1;");
        minutes(x, 3);
        x.image();
        x.force(1);
        minutes(x, 17);
        x.town(1, 6, 3);
        due("six", x.back(), 6);
        due("minute", x.count(1), 3);
        due("law", x.count(4), 0);
        due("behind door 6", x.door(6, 2), 10);
        int[] firsts = {5, 2, 4, -1};
        for (int d = 0; d < 4; d++) {
            due("first of " + d, x.door(d, 0), firsts[d]);
            due("second of " + d, x.door(d, 1), firsts[d]);
            due("behind " + d, x.door(d, 2), d < 3 ? 0 : 10);
        }
        int[] came = {0, 3, 3, 0, 2, 1};
        for (int p = 0; p < 6; p++) {
            due("door of " + p, x.told(p, 0), DOORS_OF_SIX[3][p]);
            due("eggs of " + p, x.told(p, 1), EGGS_OF_SIX[3][p]);
            due("came of " + p, x.told(p, 2), came[p]);
        }
    }

    // ---- 35 .. 39: the host

    @Says("A SHEET becomes a row of n of a sort, all 0, or missing (sort -1: n does not matter): 1.")
    static void promise35_sheet() {
        KeysForSecond x = new KeysForSecond();
        for (int s = 0; s < 4; s++) {
            due("shorts", x.sheet(s, 1, 6), 1);
            due("the sixth", x.cell(s, 5, 7), 1);
            due("ints", x.sheet(s, 2, 6), 1);
            due("citizens 0, 0 of ints", x.peopleBy(s, 2, 4, 1), 1);
            due("without eggs", x.told(s, 1), 0);
            due("missing", x.sheet(s, -1, 6), 1);
            due("nothing there", x.cell(s, 5, 7), -11);
        }
    }

    @Says("SHEETS 0 .. 3 are rows of numbers, or missing (as all are at first): of sort 0 bytes, 1 shorts, 2 ints, 40 at most.")
    static void promise35_fourSheets() {
        KeysForSecond x = two();
        for (int s = 0; s < 4; s++) {
            due("nothing there", x.judge(s, 0), -11);
            row(x, s, s % 3, 31, 31, s == 2 ? 30 : 31, s == 1 ? 30 : 31);
        }
        int[] otherwise = {-1, 3, 2, -1};
        for (int s = 0; s < 4; s++) {
            due("sheet " + s, x.judge(s, 0), otherwise[s]);
        }
    }

    @Says("Number i of a SHEET becomes v (of bytes, shorts its lowest 8, 16 bits): 1.")
    static void promise36_cell() {
        KeysForSecond x = two();
        for (int sort = 0; sort < 3; sort++) {
            row(x, 0, sort, 31, 31, 31);
            due("as it is", x.judge(0, 0), -1);
            due("cell 1", x.cell(0, 1, 31 + (1 << 8)), 1);
            due("8 bits of sort " + sort, x.judge(0, 0), sort == 0 ? -1 : 1);
            due("cell 1 again", x.cell(0, 1, 31 - (1 << 16)), 1);
            due("16 bits of sort " + sort, x.judge(0, 0), sort < 2 ? -1 : 1);
        }
    }

    @Says("n numbers of a SHEET, from i on, come to another one's (or its own) place j (as they were): n.")
    static void promise37_copy() {
        KeysForSecond x = two();
        row(x, 0, 2, 7, 31, 31, 31);
        x.sheet(1, 2, 4);
        due("three", x.copy(0, 1, 1, 0, 3), 3);
        due("31, 31, 31, 0", x.judge(1, 0), 3);
        due("one", x.copy(1, 0, 1, 3, 1), 1);
        due("31, 31, 31, 31", x.judge(1, 0), -1);
        due("of its own", x.copy(0, 0, 0, 1, 3), 3);
        x.cell(0, 0, 31);
        due("31, 7, 31, 31", x.judge(0, 0), 1);
        x.cell(0, 1, 31);
        due("31, 31, 31, 31 as they were", x.judge(0, 0), -1);
    }

    @Says("PEOPLE by a SHEET of a sort: from a place on, two by two (as of citizen()), n of them (0 .. 6): how many came (others "
        + "are left out).")
    static void promise38_peopleBy() {
        KeysForSecond x = new KeysForSecond();
        row(x, 3, 1, 0, 23, 345, 60, 0, 50, 107, 1, 1);
        due("three, one is no kind", x.peopleBy(3, 1, 1, 3), 2);
        int[][] due = {{3, 45, 0, 2, 3}, {1, 7, 0, 5, 0}};
        for (int p = 0; p < 2; p++) {
            for (int what = 0; what < 5; what++) {
                due("told " + what + " of " + p, x.told(p, what), due[p][what]);
            }
        }
        due("two came", x.count(0), 2);
    }

    @Says("What lies at place i: 0 .. 5 PEOPLE, 6 .. 13 DOORS, taken for 0 .. 5 one of that KIND (also of one that is one): the "
        + "number; 6 a DOOR: what is BEHIND.")
    static void promise39_taken() {
        KeysForSecond x = six();
        int[] kinds = {1, 1 + 2, 1 + 4, 1 + 2 + 8, 1 + 4 + 16, 1 + 32};
        for (int p = 0; p < 6; p++) {
            for (int kind = 0; kind < 6; kind++) {
                due(p + " taken for " + kind, x.taken(p, kind), (kinds[p] >> kind & 1) != 0 ? p : -13);
            }
        }
        minutes(x, 3);
        for (int d = 0; d < 8; d++) {
            due("door " + d, x.taken(6 + d, 6), d < 3 ? 0 : 10);
        }
    }

    @Says("REFUSALS, of several the first one told (a -1 that is an answer comes behind the refusal of a number): NONE there is no "
        + "such thing; BAD a number is not as told; STATE as told; FULL. The host's: -11 nothing there, -12 a place outside, -13 "
        + "of another sort or KIND, -14 a size below 0. They change nothing, but where it is told. What is asked changes nothing, "
        + "but where it is told.")
    static void promise39_refusals() {
        due("NONE", KeysForSecond.NONE, -1);
        due("BAD", KeysForSecond.BAD, -2);
        due("STATE", KeysForSecond.STATE, -3);
        due("FULL", KeysForSecond.FULL, -4);
        due("NO", KeysForSecond.NO, NO);
        refused(-2, "taken", 14, 7);
        refused(-12, "taken", 14, 6);
        refused(-13, "taken", 0, 6);
        due("-11", two().taken(2, 6), -11);
        refused(-14, "sheet", 0, 0, -1);
        refused(-4, "citizen", 0, 0);
        refused(-3, "give", 0, 5, 99);
        asked("taken", 3, 1);
    }
}
