import java.nio.charset.StandardCharsets;

/** For every promise of ../shared/DOC.md: ordinary inputs, the edges it names, wrong inputs. */
public final class PromisesTest {
    private static final int MIN = Integer.MIN_VALUE;
    private static final int MAX = Integer.MAX_VALUE;

    private static int promise = 0;
    private static int checks = 0;
    private static int wrong = 0;

    private static void due(String call, long got, long want) {
        checks++;
        if (got != want) {
            wrong++;
            System.out.println("promise " + promise + ": " + call + " answered " + got + ", due is " + want);
        }
    }

    /** The first n of the bytes of a text come behind the tape's. */
    private static void tape(KeysForSecond x, String text) {
        byte[] all = text.getBytes(StandardCharsets.ISO_8859_1);
        for (byte b : all) {
            x.feed(1, b & 255, 0, 0, 0, 0);
        }
    }

    private static int text(KeysForSecond x, String text) {
        tape(x, text);
        return x.text();
    }

    private static KeysForSecond ruled(String tries, String pays, String goes) {
        KeysForSecond x = new KeysForSecond();
        x.force(text(x, "tries " + tries + ";pays " + pays + ";goes " + goes + ";"));
        return x;
    }

    /** A town with these as of citizen(), two by two. */
    private static KeysForSecond town(int... people) {
        KeysForSecond x = new KeysForSecond();
        join(x, people);
        return x;
    }

    private static KeysForSecond join(KeysForSecond x, int... people) {
        for (int i = 0; i + 1 < people.length; i += 2) {
            x.citizen(people[i], people[i + 1]);
        }
        return x;
    }

    private static void row(KeysForSecond x, int s, int sort, int... values) {
        x.sheet(s, sort, values.length);
        for (int i = 0; i < values.length; i++) {
            x.cell(s, i, values[i]);
        }
    }

    private static void minutes(KeysForSecond x, int n) {
        for (int i = 0; i < n; i++) {
            x.minute();
        }
    }

    public static void main(String[] args) {
        Runnable[] promises = {
            PromisesTest::promise1, PromisesTest::promise2, PromisesTest::promise3, PromisesTest::promise4,
            PromisesTest::promise5, PromisesTest::promise6, PromisesTest::promise7, PromisesTest::promise8,
            PromisesTest::promise9, PromisesTest::promise10, PromisesTest::promise11, PromisesTest::promise12,
            PromisesTest::promise13, PromisesTest::promise14, PromisesTest::promise15, PromisesTest::promise16,
            PromisesTest::promise17, PromisesTest::promise18, PromisesTest::promise19, PromisesTest::promise20,
            PromisesTest::promise21, PromisesTest::promise22, PromisesTest::promise23, PromisesTest::promise24,
            PromisesTest::promise25, PromisesTest::promise26, PromisesTest::promise27, PromisesTest::promise28,
            PromisesTest::promise29, PromisesTest::promise30, PromisesTest::promise31, PromisesTest::promise32,
            PromisesTest::promise33, PromisesTest::promise34, PromisesTest::promise35, PromisesTest::promise36,
            PromisesTest::promise37, PromisesTest::promise38, PromisesTest::promise39};
        for (int i = 0; i < promises.length; i++) {
            promise = i + 1;
            int before = checks;
            promises[i].run();
            if (checks == before) {
                wrong++;
                System.out.println("promise " + promise + " has no check");
            }
        }
        System.out.println(promises.length + " promises, " + checks + " checks, " + wrong + " wrong");
        if (wrong != 0) {
            System.exit(1);
        }
    }

    private static void promise1() {
        KeysForSecond x = new KeysForSecond();
        due("count(0)", x.count(0), 0);
        due("count(1)", x.count(1), 0);
        due("count(2)", x.count(2), 0);
        due("count(3)", x.count(3), 1);
        due("count(4)", x.count(4), 0);
        due("count(5)", x.count(5), 0);
        for (int d = 0; d < 8; d++) {
            due("first", x.door(d, 0), -1);
            due("second", x.door(d, 1), -1);
            due("behind", x.door(d, 2), 10);
            due("at", x.door(d, 3), 0);
        }
        for (int p = 0; p < 6; p++) {
            due("told", x.told(p, 0), -5);
        }
        for (int s = 0; s < 4; s++) {
            due("cell", x.cell(s, 0, 0), -11);
        }
        due("back", x.back(), -3);
        due("NONE", KeysForSecond.NONE, -1);
        due("BAD", KeysForSecond.BAD, -2);
        due("STATE", KeysForSecond.STATE, -3);
        due("FULL", KeysForSecond.FULL, -4);
        due("NO", KeysForSecond.NO, -(1L << 62));
    }

    private static void promise2() {
        KeysForSecond x = town(0, 30, 0, 30, 0, 130);
        due("people", x.count(0), 3);
        x.town(0, 0, 7);
        due("minute", x.count(1), 7);
        x.twist(0);
        due("no second by a first", x.count(2), 0);
        x.twist(1);
        due("a second", x.count(2), 1);
        x.put(1, 0, 5);
        x.twist(1);
        x.twist(2);
        x.put(0, 0, 5);
        x.twist(0);
        due("two seconds, a number and no bits", x.count(2), 2);
        text(x, "tries 1;pays 1;goes 1;");
        text(x, "tries 1;pays 1;goes");
        due("texts", x.count(3), 2);
        x.force(1);
        due("law", x.count(4), 1);
        tape(x, "abc");
        due("tape", x.count(5), 3);
        due("what 6", x.count(6), -2);
        due("what -1", x.count(-1), -2);
        due("what MIN", x.count(MIN), -2);
    }

    private static void promise3() {
        KeysForSecond x = town(0, 0, 0, 0);
        due("minute", x.town(0, 77, 9999), 0);
        due("minute again", x.town(0, -1, 0), 9999);
        due("minute 10000", x.town(0, 0, 10000), -7);
        due("minute -1", x.town(0, 0, -1), -7);
        due("minute stays", x.count(1), 0);
        due("behind", x.town(1, 7, 99), 10);
        due("behind again", x.town(1, 7, 0), 99);
        due("behind 100", x.town(1, 7, 100), -7);
        due("behind -1", x.town(1, 7, -1), -7);
        due("behind is", x.door(7, 2), 0);
        due("behind beside", x.door(6, 2), 10);
        due("first", x.town(2, 3, 1), -1);
        due("first again", x.town(2, 3, 0), 1);
        due("first of nobody there", x.town(2, 3, 2), -7);
        due("first -2", x.town(2, 3, -2), -7);
        due("first none", x.town(2, 3, -1), 0);
        due("first is none", x.door(3, 0), -1);
        due("no door 8", x.town(1, 8, 0), -5);
        due("no door -1", x.town(2, -1, 100), -5);
        due("what 3", x.town(3, 0, 0), -5);
        due("what -1", x.town(-1, 0, 0), -5);
        x.twist(0);
        x.twist(1);
        x.town(2, 0, -1);
        due("a second stays", x.door(0, 1), 1);
        x.town(0, 0, 20);
        due("setting the clock is no midnight", x.door(0, 1), 1);
    }

    private static void promise4() {
        KeysForSecond x = town(0, 130, 0, 130, 0, 30);
        x.twist(1);
        due("first", x.door(1, 0), 1);
        due("second", x.door(1, 1), -1);
        x.twist(0);
        due("first then", x.door(1, 0), 0);
        due("second then", x.door(1, 1), 0);
        due("behind", x.door(1, 2), 0);
        due("behind 0", x.door(0, 2), 10);
        due("at 1", x.door(1, 3), 3);
        due("at 0", x.door(0, 3), 4);
        due("at 7", x.door(7, 3), 0);
        due("door 8", x.door(8, 0), -5);
        due("door -1", x.door(-1, 9), -5);
        due("what 4", x.door(0, 4), -7);
        due("what -1", x.door(0, -1), -7);
    }

    private static void promise5() {
        KeysForSecond x = new KeysForSecond();
        due("n 0", x.feed(0, 1, 1, 1, 1, 1), -2);
        due("n 6", x.feed(6, 1, 1, 1, 1, 1), -2);
        due("a", x.feed(1, 256, 0, 0, 0, 0), -2);
        due("a -1", x.feed(1, -1, 0, 0, 0, 0), -2);
        due("b", x.feed(1, 0, 256, 0, 0, 0), -2);
        due("c", x.feed(1, 0, 0, -1, 0, 0), -2);
        due("d", x.feed(1, 0, 0, 0, 256, 0), -2);
        due("e", x.feed(1, 0, 0, 0, 0, -1), -2);
        due("nothing came", x.count(5), 0);
        due("255", x.feed(1, 255, 255, 255, 255, 255), 1);
        due("more", x.feed(3, 0, 0, 0, 0, 0), 4);
        due("five", x.feed(5, 0, 0, 0, 0, 0), 9);
        due("read in order", text(new KeysForSecond(), ""), -100);
        x = new KeysForSecond();
        x.feed(5, 't', 'r', 'i', 'e', 's');
        x.feed(4, '1', ';', 'p', 'a', 'X');
        x.feed(5, 'y', 's', '2', ';', 'g');
        x.feed(5, 'o', 'e', 's', '-', '3');
        x.feed(1, ';', 'X', 'X', 'X', 'X');
        due("a text of fed bytes", x.text(), 1);
        x = new KeysForSecond();
        for (int i = 0; i < 31; i++) {
            x.feed(5, 32, 32, 32, 32, 32);
        }
        due("158", x.feed(3, 32, 32, 32, 32, 32), 158);
        due("no room for 3", x.feed(3, 32, 32, 32, 32, 32), -4);
        due("none came", x.count(5), 158);
        due("160", x.feed(2, 32, 32, 32, 32, 32), 160);
        due("no room for 1", x.feed(1, 32, 32, 32, 32, 32), -4);
        due("bad ahead of full", x.feed(1, 32, 32, 32, 32, 256), -2);
        due("160 blanks end too early", x.text(), -260);
    }

    private static void fault(String text, int place) {
        KeysForSecond x = new KeysForSecond();
        due("text '" + text + "'", text(x, text), -100 - place);
        due("tape behind '" + text + "'", x.count(5), 0);
        due("texts behind '" + text + "'", x.count(3), 1);
    }

    private static void fine(String text) {
        KeysForSecond x = new KeysForSecond();
        due("text '" + text + "'", text(x, text), 1);
        due("tape behind '" + text + "'", x.count(5), 0);
        due("texts behind '" + text + "'", x.count(3), 2);
    }

    private static void faultIn(String e, int place) {
        fault("tries " + e + ";pays 1;goes 1;", 6 + place);
        fault("tries 1;pays 1;goes " + e + ";", 20 + place);
    }

    private static void fineIn(String e) {
        fine("tries " + e + ";pays 1;goes 1;");
        fine("tries 1;pays " + e + ";goes 1;");
    }

    private static void value(String e, int due) {
        KeysForSecond x = ruled("1", "1", e);
        join(x, 7, 342);
        due("value of '" + e + "'", x.asks(2, 0), due);
    }

    private static void promise6() {
        faultsOfForm();
        faultsOfDepth();
        values();
        textsBehindFaults();
        KeysForSecond x = new KeysForSecond();
        for (int t = 1; t < 6; t++) {
            due("a text", text(x, "tries 1;pays 1;goes 1;"), t);
        }
        tape(x, "no");
        due("full ahead of the fault", x.text(), -4);
        due("the tape stays", x.count(5), 2);
        due("six", x.count(3), 6);
    }

    private static void faultsOfForm() {
        fine("tries1;pays2;goes1;");
        fine(" \n tries\n1 ; pays 2 ; goes 1 ; \n");
        fault("", 0);
        fault("   ", 3);
        fault(" ".repeat(155) + "tries", 160);
        fault("tries" + " ".repeat(154) + "1", 160);
        fault("tries" + " ".repeat(154) + "-", 160);
        fault("tries" + " ".repeat(154) + "x", 159);
        fault("pays 1;", 0);
        fault("tries", 5);
        fault("tries 1", 7);
        fault("tries 1 pays 2;", 8);
        fault("tries;", 5);
        fault("tries 1;goes 1;pays 1;", 8);
        fault("tries 1;pays 1;goes 1", 21);
        fault("tries 1;pays 1;goes 1;;", 22);
        fault("tries 1;pays 1;goes 1; x", 23);
        fault("tries 1;pays 1;goes 1;tries 1;", 22);
        fault("tries 1;pays 1;goes 1;\t", 22);
        fault("Tries 1;", 0);
        fault("triesx 1;", 0);
        fault("triesdoor;", 0);
        fault("tries\r1;", 5);
        fault("tries \u00e9;", 6);
        fault("tries \0;", 6);
        faultIn("12345", 0);
        faultIn("1 + 00000", 4);
        faultIn("1 + 99999", 4);
        fineIn("0000");
        fineIn("9999");
        faultIn("doors", 0);
        faultIn("doo", 0);
        faultIn("moor", 0);
        faultIn("dior", 0);
        faultIn("doos", 0);
        faultIn("doorz", 0);
        faultIn("zdoor", 0);
        faultIn("adoor", 0);
        faultIn("doora", 0);
        faultIn("door{", 4);
        faultIn("door`", 4);
        faultIn("1:", 1);
        faultIn("1/", 1);
        faultIn("tries", 0);
        faultIn("or", 0);
        faultIn("and 1", 0);
        faultIn("1 or", 4);
        faultIn("1 door", 2);
        faultIn("1 goes 1", 2);
        faultIn("1 tries 1", 2);
        faultIn("1 pays 1", 2);
        faultIn("1door", 1);
        fineIn("1or door");
        faultIn("door 1", 5);
        faultIn("1 not 1", 2);
        faultIn("1 + not 1", 4);
        faultIn("- not 1", 2);
        faultIn("1 < not 1", 4);
        faultIn("1 < 2 < 3", 6);
        faultIn("1 = 2 = 3", 6);
        faultIn("1 = 2 < 3", 6);
        fineIn("(1 < 2) < 3");
        fineIn("1 < 2 and 2 < 3 or 1 = 1");
        fineIn("not not 1");
        fineIn("1 and not 1 or not 1");
        faultIn("+ 1", 0);
        faultIn("1 + + 1", 4);
        fineIn("1 + - 1");
        fineIn("1--1");
        faultIn("* 1", 0);
        faultIn("1 * * 1", 4);
        faultIn("< 1", 0);
        faultIn("()", 1);
        faultIn("(1", 2);
        faultIn("1)", 1);
        faultIn("(1))", 3);
        faultIn("(1 1)", 3);
        faultIn("1 / 1", 2);
        faultIn("1 > 1", 2);
        faultIn("1 <= 1", 3);
        fineIn("door + eggs - minute * tried < came + more");
    }

    private static void faultsOfDepth() {
        fineIn("(((((1)))))");
        faultIn("((((((1))))))", 5);
        fineIn("-----1");
        faultIn("------1", 5);
        fineIn("not not not not not 1");
        faultIn("not not not not not not 1", 20);
        fineIn("not (-(not 1))");
        faultIn("not (-(not -1))", 11);
        faultIn("not (-(not (1)))", 11);
        faultIn("not (-(not not 1))", 11);
        faultIn("(((((not 1)))))", 5);
        faultIn("(((((-1)))))", 5);
        fineIn("-1 * -1 * -1 * -1 * -1 * -1 - -1");
        fineIn("not 1 and not 1 and not 1 and not 1 and not 1 and not 1");
        fineIn("(1) + (1) + (1) * (1) < (1) + (((((1)))))");
        fineIn("1-1-1-1-1-1-1-1");
        fineIn("not 1 < -1 or not -1");
        faultIn("not not not not 1 + (-1)", 21);
        fineIn("not not not not 1 + (1)");
        faultIn("(((((1 + -1)))))", 9);
        fineIn("(((((1 - 1)))))");
        faultIn("((((- - 1))))", 6);
        fineIn("((((- 1 - 1))))");
    }

    private static void values() {
        value("1 + 2 * 3", 7);
        value("2 * 3 + 1", 7);
        value("10 - 3 - 2", 5);
        value("10 - 3 + 2", 9);
        value("2 * 3 * 4", 24);
        value("(1 + 2) * 3", 9);
        value("- 2 * 3", -6);
        value("- (2 + 3)", -5);
        value("- - 3", 3);
        value("2 - - 3", 5);
        value("1 < 2", 1);
        value("2 < 2", 0);
        value("3 < 2", 0);
        value("2 = 2", 1);
        value("2 = 3", 0);
        value("1 + 1 < 1 + 2", 1);
        value("1 + (1 < 2)", 2);
        value("not 0", 1);
        value("not 5", 0);
        value("not -1", 0);
        value("not 1 < 0", 1);
        value("not not 7", 1);
        value("not 0 = 1 and 0", 0);
        value("1 or 0 and 0", 1);
        value("0 and 0 or 1", 1);
        value("3 and 4", 1);
        value("3 and 0", 0);
        value("0 and 3", 0);
        value("3 or 0", 1);
        value("0 or 3", 1);
        value("0 or 0", 0);
        value("1 and 2", 1);
        value("4 - 1 and 0 - 3", 1);
        value("0012", 12);
        value("door", 3);
        value("eggs", 42);
        value("more", 7);
        value("came", 0);
        value("tried", 0);
        value("minute", 0);
        value("door * 10 + more", 37);
        value("9999 * 9999 * 30 < 0", 1);
        value("9999 * 9999 * 20 < 0", 0);
        value("9999 * 9999 * 9999 < 0", 1);
        // 0 - 1027349969, once it is wrapped.
        value("9999 * 9999 * 9999 + 9999 * 9999 * 10 = 0 - 2754 * 9999 - 9999 - 2714", 1);
        // As deep as a text can wait for its right sides: 5 ranks in each of 6 nestings.
        value("0or1and5=3+2*(0or1and5=3+2*(0or1and5=3+2*(0or1and5=3+2*(0or1and5=3+2*(0or1and5=3+2*1)))))", 1);
        value("0or1and5=3+2*(0or1and5=3+2*(0or1and5=3+2*(0or1and5=3+2*(0or1and5=3+2*(0or1and5=3+2*2)))))", 0);
    }

    private static void textsBehindFaults() {
        KeysForSecond x = new KeysForSecond();
        String ones = "1+1+1+1+1+1+1+1+1+1+1+1+1+1+1+1+1+1+1+1+1+1+1+1+1+1+1+1+1+1+1+1+1+1+1+1+1+1+1+1+1+1+1+1+1+1+1+1";
        for (int i = 0; i < 4; i++) {
            due("a fault at its end", text(x, "tries " + ones + ";pays 1;goes 1"), -100 - 6 - ones.length() - 14);
        }
        due("a text behind faults", text(x, "tries 3;pays 4;goes 5;"), 1);
        x.force(1);
        x.citizen(0, 0);
        due("tries", x.asks(0, 0), 3);
        due("pays", x.asks(1, 0), 4);
        due("goes", x.asks(2, 0), 5);
        String most = "tries(" + ones + ")*" + ones.substring(0, 43) + ";pays4;goes5; ";
        due("as long as can be", most.length(), 160);
        due("a text of 160 bytes", text(x, most), 2);
        x.force(2);
        due("all of it", x.asks(0, 0), 48 + 21);
        due("its end", x.asks(2, 0), 5);
    }

    private static void promise7() {
        KeysForSecond x = new KeysForSecond();
        due("no text 1", x.force(1), -2);
        due("text 0", x.force(0), 0);
        text(x, "tries 0;pays 1;goes 0;");
        due("the law was 0", x.force(1), 0);
        due("the law is 1", x.count(4), 1);
        due("the law was 1", x.force(1), 1);
        due("no text 2", x.force(2), -2);
        due("no text -1", x.force(-1), -2);
        due("the law stays", x.count(4), 1);
        join(x, 0, 0);
        due("as the law says", x.asks(0, 0), 0);
        due("the law was 1 still", x.force(0), 1);
        due("as the first law says", x.asks(0, 0), 1);
    }

    private static void promise8() {
        KeysForSecond x = town(9, 799);
        due("tries", x.asks(0, 0), 1);
        due("pays", x.asks(1, 0), 2);
        due("goes", x.asks(2, 0), 1);
        due("part 3", x.asks(3, 0), -1000);
        due("part -1", x.asks(-1, 0), -1000);
        due("nobody 1", x.asks(0, 1), -1000);
        due("nobody -1", x.asks(0, -1), -1000);
        x = join(ruled("100", "100", "100"), 0, 0);
        for (int part = 0; part < 3; part++) {
            due("above", x.asks(part, 0), 99);
        }
        x = join(ruled("99", "99", "99"), 0, 0);
        for (int part = 0; part < 3; part++) {
            due("at most", x.asks(part, 0), 99);
        }
        x = join(ruled("-1", "-1", "-99"), 0, 0);
        due("tries below 0", x.asks(0, 0), 0);
        due("so one does not try", x.told(0, 5), 0);
        due("pays below 0", x.asks(1, 0), 0);
        due("goes -99", x.asks(2, 0), -99);
        x = join(ruled("7", "0", "-100"), 0, 0);
        due("tries 7", x.asks(0, 0), 7);
        due("so one tries", x.told(0, 5), 1);
        due("goes -100", x.asks(2, 0), -99);
        x = join(ruled("came", "minute", "door * 10 + more"), 3, 512, 24, 0);
        due("door, more", x.asks(2, 0), 53);
        due("of the other one, whatever the kind", x.asks(2, 1), 4);
        x.town(0, 0, 39);
        due("minute of the day", x.asks(1, 0), 19);
        x.town(0, 0, 40);
        due("minute of the next day", x.asks(1, 0), 0);
        x.put(1, 0, 5);
        x.twist(1);
        due("not come in", x.asks(0, 0), 0);
        x.twist(0);
        due("come in once", x.asks(0, 0), 1);
        x.twist(1);
        x.twist(0);
        due("come in twice", x.asks(0, 0), 2);
        x = join(ruled("tried", "eggs", "0 - eggs"), 0, 42, 0, 142);
        due("not tried", x.asks(0, 0), 0);
        x.twist(0);
        due("tried", x.asks(0, 0), 1);
        due("that door alone", x.asks(0, 1), 0);
        due("eggs", x.asks(1, 0), 42);
        due("less eggs", x.asks(2, 0), -42);
    }

    private static void promise9() {
        KeysForSecond x = new KeysForSecond();
        due("kindMore 60", x.citizen(60, 0), -2);
        due("kindMore -1", x.citizen(-1, 0), -2);
        due("doorEggs 800", x.citizen(0, 800), -2);
        due("doorEggs -1", x.citizen(0, -1), -2);
        due("nobody came", x.count(0), 0);
        due("one", x.citizen(0, 0), 0);
        due("two", x.citizen(59, 799), 1);
        due("three", x.citizen(34, 256), 2);
        due("kind", x.told(2, 3), 3);
        due("more", x.told(2, 4), 4);
        due("door", x.told(2, 0), 2);
        due("eggs", x.told(2, 1), 56);
        due("came", x.told(2, 2), 0);
        due("last kind", x.told(1, 3), 5);
        due("last more", x.told(1, 4), 9);
        due("last door", x.told(1, 0), 7);
        due("most eggs", x.told(1, 1), 99);
        join(x, 0, 0, 0, 0);
        due("six", x.citizen(0, 0), 5);
        due("bad ahead of full", x.citizen(60, 0), -2);
        due("full", x.citizen(0, 0), -4);
        due("still six", x.count(0), 6);
    }

    private static void promise10() {
        KeysForSecond x = town(0, 130, 0, 240);
        due("door", x.put(0, 0, 7), 1);
        due("door again", x.put(0, 0, 0), 7);
        due("door is", x.told(0, 0), 0);
        due("door 8", x.put(0, 0, 8), -7);
        due("door -1", x.put(0, 0, -1), -7);
        due("eggs", x.put(1, 1, 99), 40);
        due("eggs again", x.put(1, 1, 0), 99);
        due("eggs 100", x.put(1, 1, 100), -7);
        due("eggs -1", x.put(1, 1, -1), -7);
        due("eggs are", x.told(1, 1), 0);
        due("of the other one", x.told(0, 1), 30);
        due("what 2", x.put(0, 2, 0), -7);
        due("what -1", x.put(0, -1, 0), -7);
        due("nobody 2", x.put(2, 0, 0), -5);
        due("nobody -1", x.put(-1, 9, 100), -5);
    }

    /** Whether one of a kind (and more) would try, at a minute, an untried door (0) or a tried one (1). */
    private static int wouldTry(String law, int kindMore, int minute, int tried) {
        KeysForSecond x = join(ruled(law, "1", "1"), kindMore, 30, 0, 130);
        x.town(0, 0, minute);
        x.town(2, 0, tried == 0 ? -1 : 1);
        return x.told(0, 5);
    }

    private static void triesOfKinds() {
        int[][] due = {
            // kind, law, then: even untried, even tried, odd untried, odd tried
            {0, 0, 0, 0, 0, 0}, {0, 1, 1, 1, 1, 1},
            {1, 0, 1, 0, 1, 0}, {1, 1, 1, 1, 1, 1},
            {2, 0, 0, 0, 0, 0}, {2, 1, 0, 1, 0, 1},
            {3, 0, 1, 0, 1, 0}, {3, 1, 1, 0, 1, 0},
            {4, 0, 0, 0, 1, 0}, {4, 1, 0, 1, 1, 0},
            {5, 0, 0, 0, 0, 0}, {5, 1, 1, 1, 1, 1}};
        for (int[] row : due) {
            for (int i = 0; i < 4; i++) {
                String what = "kind " + row[0] + ", law " + row[1] + ", case " + i + " tries";
                int kindMore = 10 * row[0] + 3;
                due(what, wouldTry(row[1] == 1 ? "1" : "0", kindMore, 6 + i / 2, i % 2), row[2 + i]);
                due(what + " on a later day", wouldTry(row[1] == 1 ? "5" : "-5", kindMore, 106 + i / 2, i % 2), row[2 + i]);
            }
        }
    }

    private static int pays(String law, int kindMore) {
        return join(ruled("1", law, "1"), kindMore, 30).told(0, 6);
    }

    private static void paysOfKinds() {
        due("citizen", pays("7", 9), 7);
        due("early", pays("7", 19), 7);
        due("doctor", pays("7", 29), 16);
        due("doctor beyond 99", pays("99", 29), 108);
        due("doctor from below 0", pays("-5", 23), 3);
        due("banker", pays("7", 39), 7);
        due("burglar", pays("7", 49), 0);
        due("rude, cut", pays("7", 59), 3);
        due("rude, even", pays("8", 59), 4);
        due("rude, 1", pays("1", 59), 0);
        due("citizen beyond", pays("100", 9), 99);
        due("citizen below", pays("-1", 9), 0);
    }

    private static int goes(String law, int kindMore, int minute) {
        KeysForSecond x = join(ruled("1", "1", law), kindMore, 30);
        x.town(0, 0, minute);
        return x.told(0, 7);
    }

    private static void goesOfKinds() {
        for (int kind : new int[] {0, 2, 4}) {
            due("far on", goes("50", 10 * kind, 0), 11);
            due("on", goes("1", 10 * kind, 0), 11);
            due("stay", goes("0", 10 * kind, 0), 10);
            due("back", goes("-1", 10 * kind, 0), 9);
            due("far back", goes("-50", 10 * kind, 0), 9);
        }
        for (String law : new String[] {"1", "0", "-1"}) {
            due("early", goes(law, 13, 19), 11);
            due("rude", goes(law, 53, 5), 10);
            due("banker early in the day", goes(law, 35, 4), 11);
            due("banker late in the day", goes(law, 35, 5), 9);
            due("banker early the next day", goes(law, 35, 24), 11);
            due("banker late the next day", goes(law, 35, 25), 9);
            due("banker without more", goes(law, 30, 0), 9);
            due("banker at night", goes(law, 39, 39), 9);
        }
    }

    private static void promise11() {
        triesOfKinds();
        paysOfKinds();
        goesOfKinds();
        KeysForSecond x = town(34, 256, 27, 231);
        due("door", x.told(0, 0), 2);
        due("eggs", x.told(0, 1), 56);
        due("came", x.told(0, 2), 0);
        due("kind", x.told(0, 3), 3);
        due("more", x.told(0, 4), 4);
        due("a first hand", x.told(0, 8), 0);
        x.twist(0);
        due("one's own first", x.told(0, 8), 1);
        due("a second hand", x.told(1, 8), 2);
        due("nothing changed", x.door(2, 1), -1);
        x.twist(1);
        due("came in", x.told(1, 2), 1);
        due("what 9", x.told(0, 9), -7);
        due("what -1", x.told(0, -1), -7);
        due("nobody 2", x.told(2, 0), -5);
        due("nobody -1", x.told(-1, 9), -5);
        x = join(ruled("1", "1", "1"), 0, 5, 0, 5);
        for (int i = 0; i < 202; i++) {
            x.twist(i % 2);
        }
        due("came 99 at most", x.told(0, 2), 99);
        due("came 99 at most, the other one", x.told(1, 2), 99);
    }

    private static void promise12() {
        KeysForSecond x = town(0, 330, 0, 340);
        due("first", x.twist(0), 0);
        due("its first", x.door(3, 0), 0);
        due("again", x.twist(0), 1);
        due("no eggs", x.told(0, 1), 30);
        due("second", x.twist(1), 2);
        due("paid", x.told(0, 1), 32);
        due("found", x.told(1, 1), 48);
        due("nothing left", x.door(3, 2), 0);
        due("came", x.told(1, 2), 1);
        due("first then", x.door(3, 0), 1);
        due("second then", x.door(3, 1), 1);
        due("shut again", x.twist(1), 1);
        due("the other one in turn", x.twist(0), 2);
        due("second in turn", x.door(3, 1), 0);
        due("paid in turn", x.told(1, 1), 50);
        due("no minute", x.count(1), 0);
        due("nobody goes", x.told(1, 0), 3);
        due("nobody 2", x.twist(2), -5);
        due("nobody -1", x.twist(-1), -5);
        x = town(0, 398, 0, 340);
        x.twist(0);
        x.twist(1);
        due("room for one egg", x.told(0, 1), 99);
        due("one egg paid", x.told(1, 1), 49);
        x = town(0, 330, 0, 301);
        x.twist(0);
        x.twist(1);
        due("no more than one has", x.told(0, 1), 31);
        due("and found", x.told(1, 1), 10);
        x = town(0, 330, 0, 395);
        x.twist(0);
        x.twist(1);
        due("no more than one has room for", x.told(1, 1), 99);
        due("so much stays behind", x.door(3, 2), 4);
        due("other doors stay", x.door(2, 2), 10);
        x = town(0, 300, 40, 350);
        x.force(text(x, "tries 0;pays 9;goes 1;"));
        x.twist(0);
        due("one need not want to try", x.twist(1), 2);
        due("burglars pay nothing", x.told(0, 1), 0);
        x = join(ruled("1", "tried * 10 + came", "1"), 0, 300, 0, 350);
        x.twist(0);
        x.twist(1);
        due("paid as it is then", x.told(0, 1), 10);
        x.twist(0);
        x.twist(1);
        due("paid as it is later", x.told(0, 1), 11);
    }

    private static void promise13() {
        KeysForSecond x = town(0, 30, 0, 190, 0, 299);
        due("some", x.give(0, 1, 5), 95);
        due("less", x.told(0, 1), 25);
        due("nothing", x.give(0, 1, 0), 95);
        due("nothing to a full one", x.give(0, 2, 0), 99);
        due("to the brim", x.give(0, 1, 4), 99);
        due("no room", x.give(0, 1, 1), -3);
        due("all", x.give(2, 0, 78), 99);
        due("not so many", x.give(2, 0, 22), -3);
        due("nothing changed", x.told(2, 1), 21);
        due("99", x.give(1, 2, 99), -3);
        due("much 100", x.give(0, 1, 100), -7);
        due("much -1", x.give(0, 1, -1), -7);
        due("one and the same", x.give(1, 1, 100), -5);
        due("nobody 3", x.give(0, 3, 100), -5);
        due("nobody -1", x.give(-1, 0, 1), -5);
        x = town(0, 99, 0, 0);
        due("99 eggs", x.give(0, 1, 99), 99);
        due("none left", x.told(0, 1), 0);
    }

    private static void promise14() {
        KeysForSecond x = town(0, 30, 0, 30, 0, 130);
        due("0 is first, 1 comes in", x.minute(), 2);
        due("minute", x.count(1), 1);
        due("0 went on", x.told(0, 0), 1);
        due("2 went on", x.told(2, 0), 2);
        due("2 was first", x.door(1, 0), 2);
        due("both come in where 2 was first", x.minute(), 3);
        due("1 came last", x.door(1, 1), 1);
        due("0 paid 2 and found 10, was paid by 1 twice", x.told(0, 1), 42);
        x = town(0, 730);
        x.minute();
        due("round", x.told(0, 0), 0);
        x = join(ruled("1", "1", "-1"), 0, 30);
        x.minute();
        due("round the other way", x.told(0, 0), 7);
        x = join(ruled("0", "1", "1"), 0, 30);
        x.minute();
        due("not tried", x.door(0, 0), -1);
        due("but gone", x.told(0, 0), 1);
        midnight();
        x = town(0, 0);
        x.town(0, 0, 9998);
        due("the last minute", x.minute(), 0);
        due("9999", x.count(1), 9999);
        due("no further", x.minute(), -3);
        due("still 9999", x.count(1), 9999);
        due("stayed", x.told(0, 0), 1);
        x = join(ruled("1", "2", "tried"), 0, 5);
        x.minute();
        due("goes as it is behind the try", x.told(0, 0), 1);
        x = join(ruled("door = 0 or 0 < minute", "1", "door < 1"), 0, 5, 0, 105);
        due("each as it is then", x.minute(), 0);
        due("0 has come to 1", x.door(1, 3), 3);
        due("then both, by numbers", x.minute(), 2);
        due("0 first, 1 second", x.door(1, 1), 1);
    }

    private static void midnight() {
        KeysForSecond x = town(50, 30, 50, 30);
        x.town(0, 0, 18);
        due("comes in", x.minute(), 2);
        due("second", x.door(0, 1), 1);
        due("both come in on the last minute of the day", x.minute(), 3);
        due("no first", x.door(0, 0), -1);
        due("no second", x.door(0, 1), -1);
        due("minute 20", x.count(1), 20);
        due("behind stays", x.door(0, 2), 0);
        due("came stays", x.told(1, 2), 2);
        due("a new day", x.minute(), 2);
    }

    private static void promise15() {
        KeysForSecond x = town(0, 30, 0, 30, 0, 130);
        due("seconds in 0", x.run(0, 0), 0);
        due("seconds in 1", x.run(1, 0), 1);
        due("seconds in 2", x.run(2, 0), 3);
        due("firsts in 1", x.run(1, 1), 3);
        due("firsts in 2", x.run(2, 1), 7);
        due("behind in 0", x.run(0, 2), 80);
        due("behind in 1", x.run(1, 2), 70);
        due("behind in 2", x.run(2, 2), 60);
        due("door of 0", x.run(9, 10), 1);
        due("door of 2", x.run(0, 12), 1);
        due("eggs of 0", x.run(2, 20), 42);
        due("eggs of 1", x.run(1, 21), 38);
        due("came of 1", x.run(2, 31), 2);
        due("came of 0", x.run(1, 30), 0);
        due("midnight", x.run(20, 1), 0);
        due("behind midnight", x.run(21, 1) == 0 ? 1 : 0, 0);
        due("in thought", x.count(1), 0);
        due("in thought, at", x.told(0, 0), 0);
        due("60", x.run(60, 10), 4);
        due("61", x.run(61, 0), -2);
        due("-1", x.run(-1, 0), -2);
        due("what 3", x.run(0, 3), -2);
        due("what 9", x.run(0, 9), -2);
        due("what -1", x.run(0, -1), -2);
        due("what 13", x.run(0, 13), -2);
        due("what 19", x.run(0, 19), -2);
        due("what 23", x.run(0, 23), -2);
        due("what 33", x.run(0, 33), -2);
        due("what 40", x.run(0, 40), -2);
        due("what MIN", x.run(0, MIN), -2);
        x.town(0, 0, 9999);
        due("past 9999", x.run(60, 10), 4);
        due("midnight past 9999", x.run(1, 1), 0);
        due("day past 9999", x.run(2, 1) == 0 ? 1 : 0, 0);
    }

    private static void promise16() {
        KeysForSecond x = town(50, 30, 50, 130);
        due("door 0", x.when(0), -1);
        due("somebody is alone", x.when(9), -1);
        x = town(10, 30, 50, 230);
        due("door 2: 1 is its first, 0 comes in by then", x.when(2), 3);
        due("nobody is alone", x.when(9), 2);
        due("all doors", x.when(8), -1);
        due("in thought", x.count(1), 0);
        minutes(x, 3);
        due("now", x.when(2), 0);
        x = new KeysForSecond();
        due("nobody at all", x.when(9), 0);
        due("no door", x.when(8), -1);
        x.citizen(50, 0);
        due("alone at door 0", x.when(9), -1);
        join(x, 50, 0, 50, 700);
        due("alone at door 7", x.when(9), -1);
        x.citizen(50, 700);
        due("nobody alone", x.when(9), 0);
        x = town(0, 0, 0, 5);
        due("all doors by two that go together", x.when(8), 8);
        due("the last door", x.when(7), 8);
        due("together from now on", x.when(9), 0);
        due("what 10", x.when(10), -7);
        due("what -1", x.when(-1), -7);
        x = join(ruled("0", "0", "door = 0 and more"), 0, 0, 1, 0);
        due("alone from 1 on", x.when(9), 0);
        x.minute();
        due("alone from now on", x.when(9), -1);
        x = join(ruled("minute = 19", "0", "0"), 0, 0, 0, 0);
        due("shut again at midnight", x.when(0), -1);
        x = join(ruled("minute = 18", "0", "0"), 0, 0, 0, 0);
        x.town(0, 0, 19);
        due("20 minutes later", x.when(0), 20);
        x = join(ruled("59 < eggs", "0", "0"), 9, 0, 9, 0);
        x.town(0, 0, 0);
        due("never", x.when(0), -1);
        whenOfLate();
    }

    /** One goes to the other's door in minute 5 alone, and comes in there the minute after. */
    private static void whenOfLate() {
        KeysForSecond late = join(ruled("door = 1", "0", "came = 0 and minute = 5"), 0, 0, 50, 100);
        late.town(0, 0, 6);
        due("behind 21 minutes", late.when(1), 21);
        due("waits 21", late.waits(1), 21);
        KeysForSecond last = lastOfSixty();
        due("behind 60 minutes", last.when(3), 60);
        last.town(0, 0, 0);
        due("behind 61 minutes", last.when(3), -1);
    }

    /** 1 goes on once a day and comes to 0's door behind 59 minutes; both try it in the next one alone. */
    private static KeysForSecond lastOfSixty() {
        KeysForSecond x = join(ruled("door = 3 and minute = 0", "1", "minute = 19"), 50, 330, 0, 30);
        x.town(0, 0, 1);
        return x;
    }

    private static void promise17() {
        KeysForSecond x = town(0, 30, 0, 30, 0, 130);
        due("0 comes in", x.waits(0), 2);
        due("1 comes in", x.waits(1), 1);
        due("in thought", x.count(1), 0);
        due("nobody 3", x.waits(3), -5);
        due("nobody -1", x.waits(-1), -5);
        x = town(50, 30);
        due("alone", x.waits(0), -1);
        x = join(ruled("minute = 19", "0", "0"), 0, 0, 0, 0);
        due("just ahead of midnight", x.waits(1), 20);
        due("the next day never", x.waits(0), -1);
        x.town(0, 0, 9999);
        due("the very next one, past 9999", x.waits(1), 1);
        x = two();
        x.minute();
        due("came in already, comes in again", x.waits(1), 1);
        x = lastOfSixty();
        due("in minute 60", x.waits(1), 60);
        due("who is first there never comes in", x.waits(0), -1);
        x.town(0, 0, 0);
        due("in minute 61", x.waits(1), -1);
    }

    private static void promise18() {
        KeysForSecond x = town(0, 30, 0, 30);
        due("the first by number", x.pair(0), 10);
        due("eggs", x.pair(1), 38);
        x.town(1, 5, 40);
        due("most behind door 5", x.pair(0), 15);
        due("eggs of door 5", x.pair(1), 68);
        x.put(0, 1, 40);
        due("the other one has more", x.pair(0), 105);
        due("eggs of the other one", x.pair(1), 78);
        x.town(2, 5, 1);
        due("1 is its first already", x.pair(1), 78);
        x.town(2, 5, 0);
        due("0 is its first: 1 takes all, so that 0 finds nothing", x.pair(0), 15);
        due("30 less 2, and 40", x.pair(1), 68);
        due("in thought", x.door(5, 2), 40);
        due("what 2", x.pair(2), -2);
        due("what -1", x.pair(-1), -2);
        x = town(0, 30);
        due("no two", x.pair(0), -1);
        due("no two, how many", x.pair(1), -1);
        due("bad ahead of that", x.pair(2), -2);
        x = town(0, 5, 0, 5, 0, 50);
        due("three", x.pair(0), 20);
        due("three, how many", x.pair(1), 58);
        x = town(0, 99, 0, 99);
        due("full", x.pair(0), 10);
        due("full, how many", x.pair(1), 99);
        x = join(ruled("1", "tried * 7 + door", "1"), 0, 50, 0, 150);
        due("pays by the door one is at, not by the one tried", x.pair(1), 60);
        due("0 pays nothing, but 7 at door 0 itself, tried by then", x.pair(0), 101);
    }

    private static void promise19() {
        KeysForSecond x = town(50, 30, 50, 330);
        x.town(1, 3, 25);
        due("where the other one is first already? no: 1 comes in", x.stand(0, 1, 0), 3);
        due("as the first one is paid", x.stand(0, 1, 1), 31);
        due("in two minutes 1 comes in and I am paid and come in", x.stand(0, 2, 0), 3);
        due("1's turn", x.stand(1, 1, 0), 0);
        due("1's eggs", x.stand(1, 1, 1), 39);
        due("0 minutes", x.stand(0, 0, 0), 0);
        due("0 minutes, how many", x.stand(0, 0, 1), 30);
        due("40 minutes", x.stand(0, 40, 0) < 0 ? 1 : 0, 0);
        due("41 minutes", x.stand(0, 41, 0), -7);
        due("-1 minutes", x.stand(0, -1, 0), -7);
        due("what 2", x.stand(0, 0, 2), -7);
        due("what -1", x.stand(0, 0, -1), -7);
        due("nobody 2", x.stand(2, 41, 2), -5);
        due("nobody -1", x.stand(-1, 0, 0), -5);
        due("in thought", x.told(0, 0), 0);
        x = town(50, 30, 40, 399);
        x.town(2, 6, 1);
        due("a door with a first", x.stand(0, 1, 0), 6);
        due("10 found, 1 egg has no room", x.stand(0, 1, 1), 40);
    }

    private static void promise20() {
        KeysForSecond x = town(50, 30, 50, 30);
        due("round 0: 1 comes in at door 0 as without", x.rounds(1, 0), -1);
        due("so 1 second", x.rounds(1, 1), 1);
        due("0 minutes", x.rounds(0, 0), -1);
        due("0 minutes, none", x.rounds(0, 1), 0);
        x.town(2, 5, 1);
        due("0 comes in at door 5", x.rounds(0, 0), 0);
        due("one", x.rounds(0, 1), 1);
        x.town(2, 6, 0);
        due("of like ones the first", x.rounds(0, 0), 0);
        x.town(2, 4, 0);
        due("1 has two doors", x.rounds(0, 0), 1);
        due("two", x.rounds(0, 1), 2);
        due("in thought", x.door(5, 0), 1);
        due("in thought, no second", x.count(2), 0);
        x = town(50, 500, 50, 600);
        x.town(2, 0, 1);
        due("0 comes in at door 0", x.rounds(0, 0), 0);
        x.town(2, 0, -1);
        x.town(2, 7, 0);
        due("1 comes in at door 7", x.rounds(0, 0), 1);
        x = town(0, 0, 50, 0);
        due("1 goes round first, 0 comes in door by door", x.rounds(7, 0), 1);
        due("seven", x.rounds(7, 1), 7);
        due("behind midnight as without", x.rounds(20, 1), 0);
        due("behind midnight nobody", x.rounds(20, 0), -1);
        due("40", x.rounds(40, 0), -1);
        due("41", x.rounds(41, 0), -2);
        due("-1", x.rounds(-1, 0), -2);
        due("what 2", x.rounds(0, 2), -2);
        due("what -1", x.rounds(0, -1), -2);
        x = new KeysForSecond();
        due("nobody", x.rounds(6, 0), -1);
        due("none", x.rounds(6, 1), 0);
    }

    private static void promise21() {
        KeysForSecond x = new KeysForSecond();
        due("nobody", x.tries(0), -1);
        due("eight without", x.tries(1), 8);
        due("what 2", x.tries(2), -2);
        due("what -1", x.tries(-1), -2);
        x.citizen(0, 0);
        due("one alone", x.tries(0), -1);
        x.citizen(0, 0);
        due("two", x.tries(0), 16);
        x.twist(0);
        due("a first is there", x.tries(0), 15);
        due("eight without a second", x.tries(1), 8);
        x.twist(1);
        due("a second is there", x.tries(0), 14);
        due("seven without", x.tries(1), 7);
        x.town(2, 0, -1);
        due("a second without a first", x.tries(0), 14);
        for (int d = 1; d < 8; d++) {
            x.put(0, 0, d);
            x.put(1, 0, d);
            x.twist(0);
            x.twist(1);
        }
        due("all", x.tries(0), 0);
        due("none without", x.tries(1), 0);
    }

    private static void promise22() {
        long no = KeysForSecond.NO;
        KeysForSecond x = town(0, 20, 0, 0);
        due("20 of 100, above", x.share(0, 0), 1);
        due("20 of 100, below", x.share(0, 1), 5);
        due("0, above", x.share(1, 0), 0);
        due("0, below", x.share(1, 1), 1);
        due("part 2", x.share(0, 2), no);
        due("part -1", x.share(0, -1), no);
        due("nobody 2", x.share(2, 0), no);
        due("nobody -1", x.share(-1, 0), no);
        x.put(1, 1, 99);
        due("99 of 199, above", x.share(1, 0), 99);
        due("99 of 199, below", x.share(1, 1), 199);
        for (int d = 0; d < 8; d++) {
            x.town(1, d, 0);
        }
        x.put(1, 1, 0);
        due("all, above", x.share(0, 0), 1);
        due("all, below", x.share(0, 1), 1);
        x.put(0, 1, 1);
        due("one in all", x.share(0, 1), 1);
        due("none of that one", x.share(1, 0), 0);
        x.put(0, 1, 0);
        due("there are none, above", x.share(0, 0), no);
        due("there are none, below", x.share(0, 1), no);
        x = town(0, 1, 0, 2, 0, 3, 0, 4, 0, 5, 0, 6);
        due("of six, above", x.share(5, 0), 6);
        due("of six, below", x.share(5, 1), 101);
    }

    /** Two rude ones at one door: 0 has 30, 1 has 30, they come in by turns, 0 from the second minute on. */
    private static KeysForSecond two() {
        return town(50, 30, 50, 30);
    }

    private static void refusalsOfTold(String name, KeysForSecond x, long bad, long missing, long long21, long nobody) {
        due(name + ": sheet 4", bad, -2);
        due(name + ": missing", missing, -11);
        due(name + ": 21 numbers", long21, -2);
        due(name + ": nobody", nobody, -5);
        due(name + ": in thought", x.count(1), 0);
    }

    private static void promise23() {
        KeysForSecond x = two();
        x.sheet(2, 0, 21);
        row(x, 1, 2, 31, 31, 31);
        refusalsOfTold("judge", x, x.judge(4, 9), x.judge(3, 9), x.judge(2, 9), x.judge(1, 2));
        due("sheet -1", x.judge(-1, 0), -2);
        due("nobody -1", x.judge(1, -1), -5);
        due("as told", x.judge(1, 0), -1);
        due("of the other one", x.judge(1, 1), 0);
        row(x, 1, 1, 31, 31, 32);
        due("the third is otherwise", x.judge(1, 0), 2);
        row(x, 1, 0, 31, 30, 32);
        due("the second is otherwise", x.judge(1, 0), 1);
        row(x, 1, 0, 39, 39, 39);
        due("the other one's", x.judge(1, 1), -1);
        x.sheet(1, 2, 0);
        due("nothing told", x.judge(1, 0), -1);
        x.film(1, 0, 20);
        due("20 numbers", x.judge(1, 0), -1);
        x.cell(1, 19, 98);
        due("the 20th is otherwise", x.judge(1, 0), 19);
        due("in thought", x.count(1), 0);
    }

    private static void promise24() {
        KeysForSecond x = two();
        x.sheet(2, 0, 21);
        row(x, 1, 2, 31);
        refusalsOfTold("kinds", x, x.kinds(4, 9, 9), x.kinds(3, 9, 9), x.kinds(2, 9, 9), x.kinds(1, 2, 9));
        due("sort 2", x.kinds(1, 0, 2), -7);
        due("sort -1", x.kinds(1, 0, -1), -7);
        // As long as 0 stays and tries door 0 first: else 1 is its first and nothing is paid.
        due("all that try an untried door now", x.kinds(1, 0, 0), 1 + 2 + 8 + 32);
        due("whatever its more", x.kinds(1, 0, 1), 1023);
        row(x, 1, 2, 38);
        due("1 pays 2: citizen, early, doctor without more", x.kinds(1, 1, 0), 1 + 2 + 4);
        row(x, 1, 2, 40);
        due("1 pays nothing: burglar", x.kinds(1, 1, 0), 16);
        row(x, 1, 2, 30);
        due("1 does not try: banker", x.kinds(1, 1, 0), 8);
        x = town(50, 30, 22, 30);
        row(x, 1, 2, 33);
        due("1 is a doctor, pays 2 and 5 more", x.kinds(1, 1, 1), 1 << 5);
        row(x, 1, 2, 38);
        due("1 is a doctor, pays 2 and none more", x.kinds(1, 1, 1), 1);
        row(x, 1, 2, 29);
        due("1 is a doctor, pays 2 and 9 more", x.kinds(1, 1, 1), 1 << 9);
        row(x, 1, 2, 36);
        due("kind by its more", x.kinds(1, 1, 0), 4);
        due("its kind stays", x.told(1, 3), 2);
        due("its more stays", x.told(1, 4), 2);
    }

    private static void promise25() {
        KeysForSecond x = two();
        x.sheet(2, 0, 21);
        row(x, 1, 2, 39);
        refusalsOfTold("doors", x, x.doors(4, 9), x.doors(3, 9), x.doors(2, 9), x.doors(1, 2));
        due("where 0 is first", x.doors(1, 1), 1);
        row(x, 1, 2, 30);
        due("anywhere else", x.doors(1, 1), 254);
        x.town(2, 7, 0);
        due("door 7 has a first", x.doors(1, 1), 126);
        row(x, 1, 2, 31);
        due("nowhere", x.doors(1, 1), 0);
        x.sheet(1, 0, 0);
        due("nothing told", x.doors(1, 1), 255);
        due("it stays", x.told(1, 0), 0);
    }

    private static void promise26() {
        KeysForSecond x = two();
        x.sheet(2, 0, 21);
        row(x, 1, 2, 99);
        refusalsOfTold("baskets", x, x.baskets(4, 9, 9), x.baskets(3, 9, 9), x.baskets(2, 9, 9), x.baskets(1, 2, 9));
        due("what 2", x.baskets(1, 1, 2), -7);
        due("what -1", x.baskets(1, 1, -1), -7);
        due("90 .. 99 and find 10", x.baskets(1, 1, 0), 10);
        due("90 at least", x.baskets(1, 1, 1), 90);
        row(x, 1, 2, 39);
        due("30 alone", x.baskets(1, 1, 0), 1);
        due("30", x.baskets(1, 1, 1), 30);
        row(x, 1, 2, 10);
        due("0 or 1", x.baskets(1, 1, 0), 2);
        due("0 at least", x.baskets(1, 1, 1), 0);
        row(x, 1, 2, 9);
        due("by none", x.baskets(1, 1, 0), 0);
        due("by none, -1", x.baskets(1, 1, 1), -1);
        x.sheet(1, 0, 0);
        due("nothing told", x.baskets(1, 1, 0), 100);
        due("eggs stay", x.told(1, 1), 30);
    }

    private static void promise27() {
        KeysForSecond x = two();
        x.sheet(2, 0, 21);
        row(x, 1, 2, 31);
        refusalsOfTold("firsts", x, x.firsts(4, 9, 9), x.firsts(3, 9, 9), x.firsts(2, 9, 9), x.firsts(1, 2, 9));
        due("door 8", x.firsts(1, 0, 8), -7);
        due("door -1", x.firsts(1, 0, -1), -7);
        due("0 itself or nobody", x.firsts(1, 0, 0), 1 + 64);
        row(x, 1, 2, 40);
        due("1: 0 comes in, pays 1, is paid 1", x.firsts(1, 0, 0), 2);
        due("of another door", x.firsts(1, 0, 3), 0);
        row(x, 1, 2, 31);
        due("whoever it is of another door", x.firsts(1, 0, 3), 1 + 2 + 64);
        x.citizen(50, 700);
        due("a third one, whom 0 pays 1", x.firsts(1, 0, 3), 1 + 2 + 4 + 64);
        due("no first came to be", x.door(3, 0), -1);
    }

    private static void promise28() {
        KeysForSecond x = town(50, 30, 50, 30, 50, 130);
        due("sheet 4", x.whose(4), -2);
        due("sheet -1", x.whose(-1), -2);
        due("missing", x.whose(3), -11);
        x.sheet(2, 0, 21);
        due("21 numbers", x.whose(2), -2);
        row(x, 1, 2, 31);
        due("0", x.whose(1), 1);
        row(x, 1, 2, 39);
        due("1", x.whose(1), 2);
        row(x, 1, 2, 30);
        due("2", x.whose(1), 4);
        x.put(2, 1, 39);
        row(x, 1, 2, 39, 39);
        due("1 and 2", x.whose(1), 6);
        row(x, 1, 2, 7);
        due("of nobody", x.whose(1), 0);
        x.sheet(1, 0, 0);
        due("nothing told", x.whose(1), 7);
        x = new KeysForSecond();
        x.sheet(1, 0, 0);
        due("nobody there", x.whose(1), 0);
        due("in thought", x.count(1), 0);
    }

    private static void promise29() {
        KeysForSecond x = town(0, 30, 0, 30);
        x.sheet(2, 0, 21);
        row(x, 1, 2, 32);
        refusalsOfTold("laws", x, x.laws(4, 9), x.laws(3, 9), x.laws(2, 9), x.laws(1, 2));
        due("text 0", x.laws(1, 0), 1);
        text(x, "tries 1;pays 5;goes 1;");
        text(x, "tries 1;pays 2;goes 0;");
        due("texts 0, 2", x.laws(1, 0), 5);
        row(x, 1, 2, 35);
        due("text 1", x.laws(1, 0), 2);
        row(x, 1, 2, 7);
        due("none", x.laws(1, 0), 0);
        x.sheet(1, 0, 0);
        due("nothing told", x.laws(1, 0), 7);
        due("the law stays", x.count(4), 0);
    }

    private static void promise30() {
        KeysForSecond x = two();
        due("sheet 4", x.film(4, 9, 99), -2);
        due("sheet -1", x.film(-1, 0, 1), -2);
        due("nobody 2", x.film(0, 2, 99), -5);
        due("n 21", x.film(0, 0, 21), -7);
        due("n -1", x.film(0, 0, -1), -7);
        due("still missing", x.cell(0, 0, 0), -11);
        due("three", x.film(0, 1, 3), 3);
        due("in thought", x.count(1), 0);
        due("three cells", x.cell(0, 2, 39), 1);
        due("no fourth", x.cell(0, 3, 39), -12);
        due("true", x.judge(0, 1), -1);
        row(x, 1, 0, 39, 39, 39);
        due("bytes", x.copy(0, 0, 1, 0, 3), 3);
        due("copied", x.judge(1, 1), -1);
        x.film(0, 0, 1);
        due("one's own", x.judge(0, 0), -1);
        due("not the other one's", x.judge(0, 1), 0);
        due("none", x.film(0, 1, 0), 0);
        due("no cell", x.cell(0, 0, 0), -12);
        due("20", x.film(0, 1, 20), 20);
        due("20 numbers", x.judge(0, 1), -1);
        row(x, 3, 2, 1, 2, 3);
        x.film(3, 0, 2);
        due("a sheet of another sort becomes bytes", x.copy(3, 0, 0, 0, 2), 2);
    }

    private static void promise31() {
        KeysForSecond x = town(0, 30, 0, 30, 0, 30, 0, 30, 0, 30, 0, 30);
        // By hand: the lots of seed 0 are 48271, 182605794, 1291394886, 1914720637, 2078669041, 407355683,
        // 1105902161, 854716505: tries of door 2 by 1, door 5 by 0, door 3 by 1, door 1 by 5.
        due("no try", x.drawn(0, 0, 0), 0);
        due("four firsts", x.drawn(0, 4, 0), 0);
        due("seed 0 of 4, none came in", x.drawn(0, 4, 1), 0);
        x.town(2, 2, 3);
        due("the first try comes in", x.drawn(0, 1, 0), 4);
        due("once", x.drawn(0, 1, 1), 1);
        x.town(2, 2, 1);
        due("by 1 itself", x.drawn(0, 1, 1), 0);
        x.town(2, 2, -1);
        x.town(2, 1, 4);
        due("the third try is elsewhere", x.drawn(0, 3, 1), 0);
        due("the fourth try comes in", x.drawn(0, 4, 0), 2);
        due("in thought", x.door(1, 0), 4);
        due("60", x.drawn(99999, 60, 1) > 20 ? 1 : 0, 1);
        due("no minute", x.count(1), 0);
        due("seed 100000", x.drawn(100000, 1, 0), -2);
        due("seed -1", x.drawn(-1, 1, 0), -2);
        due("n 61", x.drawn(0, 61, 0), -2);
        due("n -1", x.drawn(0, -1, 0), -2);
        due("what 2", x.drawn(0, 0, 2), -2);
        due("what -1", x.drawn(0, 0, -1), -2);
        x = town(0, 30);
        x.citizen(0, 30);
        x.town(2, 5, 1);
        due("nobody by that number draws as well", x.drawn(0, 2, 1), 1);
        x = town(0, 30);
        due("alone", x.drawn(7, 60, 1), 0);
    }

    private static void promise32() {
        long no = KeysForSecond.NO;
        KeysForSecond x = town(0, 30, 0, 30, 0, 30, 0, 30, 0, 30, 0, 30);
        due("0 or more, above", x.odds(0, 40, 0, 0), 1);
        due("0 or more, below", x.odds(0, 40, 0, 1), 1);
        int good = 0;
        for (int i = 0; i < 7; i++) {
            good += Integer.bitCount(x.drawn(20 + i, 16, 0)) >= 5 ? 1 : 0;
        }
        due("by 7 seeds, above", x.odds(20, 7, 5, 0), good);
        due("by 7 seeds, below", x.odds(20, 7, 5, 1), good == 0 || good == 7 ? 1 : 7);
        due("neither none nor all", good > 0 && good < 7 ? 1 : 0, 1);
        int even = 0;
        for (int i = 0; i < 40; i++) {
            even += Integer.bitCount(x.drawn(500 + i, 16, 0)) >= 5 ? 1 : 0;
        }
        due("in lowest terms", x.odds(500, 40, 5, 0) * 40, x.odds(500, 40, 5, 1) * even);
        due("below 40", x.odds(500, 40, 5, 1) < 40 ? 1 : 0, even % 2 == 0 || even % 5 == 0 ? 1 : 0);
        due("one seed", x.odds(0, 1, 0, 0), 1);
        due("past 99999", x.odds(99999, 40, 0, 1), 1);
        due("seed 100000", x.odds(100000, 1, 0, 0), no);
        due("seed -1", x.odds(-1, 1, 0, 0), no);
        due("seeds 0", x.odds(0, 0, 0, 0), no);
        due("seeds 41", x.odds(0, 41, 0, 0), no);
        due("least 9", x.odds(0, 1, 9, 0), no);
        due("least -1", x.odds(0, 1, -1, 0), no);
        due("part 2", x.odds(0, 1, 0, 2), no);
        due("part -1", x.odds(0, 1, 0, -1), no);
        due("in thought", x.count(2), 0);
        x = town(0, 30);
        due("alone, above", x.odds(5, 30, 1, 0), 0);
        due("alone, below", x.odds(5, 30, 1, 1), 1);
        due("all eight alone", x.odds(5, 30, 8, 0), 0);
    }

    private static void promise33() {
        KeysForSecond x = new KeysForSecond();
        due("nobody", x.image(), 0);
        x.citizen(0, 30);
        due("one", x.image(), 1);
        x.citizen(0, 40);
        due("back to the last image", x.back(), 1);
        x.town(0, 0, 5);
        due("image again", x.image(), 1);
        x.town(0, 0, 9);
        x.back();
        due("the last one holds", x.count(1), 5);
    }

    private static void promise34() {
        KeysForSecond x = town(14, 130, 50, 140);
        due("there is none", x.back(), -3);
        text(x, "tries 1;pays 1;goes 1;");
        x.twist(0);
        x.twist(1);
        x.town(0, 0, 17);
        x.force(1);
        x.image();
        x.sheet(0, 0, 3);
        x.force(0);
        x.town(0, 0, 3);
        x.town(1, 4, 77);
        x.town(2, 1, 0);
        x.put(0, 0, 6);
        x.put(0, 1, 66);
        join(x, 33, 699, 44, 0);
        x.put(1, 0, 6);
        x.twist(2);
        x.twist(1);
        text(x, "tries 1;pays 3;goes 1;");
        tape(x, "ab");
        due("two", x.back(), 2);
        due("minute", x.count(1), 17);
        due("law", x.count(4), 1);
        due("behind 4", x.door(4, 2), 10);
        due("behind 1", x.door(1, 2), 0);
        due("behind 6", x.door(6, 2), 10);
        due("first", x.door(1, 0), 1);
        due("second", x.door(1, 1), 1);
        due("first of 6", x.door(6, 0), -1);
        due("second of 6", x.door(6, 1), -1);
        due("door of 0", x.told(0, 0), 1);
        due("eggs of 0", x.told(0, 1), 31);
        due("came of 1", x.told(1, 2), 1);
        due("nobody 2", x.told(2, 0), -5);
        due("nobody at 6", x.door(6, 3), 0);
        due("texts stay", x.count(3), 3);
        due("the tape stays", x.count(5), 2);
        due("sheets stay", x.cell(0, 2, 0), 1);
        due("kind of 0", x.told(0, 3), 1);
        due("a new one", x.citizen(21, 5), 2);
        due("of its own kind", x.told(2, 3), 2);
        due("has not come in", x.told(2, 2), 0);
        due("back again", x.back(), 2);
        x.citizen(50, 100);
        x.twist(2);
        x.back();
        due("one that came since has gone again", x.citizen(0, 0), 2);
        due("came 0 as one comes", x.told(2, 2), 0);
    }

    private static void promise35() {
        KeysForSecond x = new KeysForSecond();
        due("sheet 4", x.sheet(4, 0, 1), -2);
        due("sheet -1", x.sheet(-1, 0, 1), -2);
        due("sort 3", x.sheet(0, 3, 1), -2);
        due("sort -2", x.sheet(0, -2, 1), -2);
        due("n 41", x.sheet(0, 0, 41), -2);
        due("n MAX", x.sheet(0, 2, MAX), -2);
        due("n -1", x.sheet(0, 0, -1), -14);
        due("n MIN", x.sheet(0, 1, MIN), -14);
        due("sort ahead of n", x.sheet(0, 3, -1), -2);
        due("still missing", x.cell(0, 0, 0), -11);
        due("40", x.sheet(3, 2, 40), 1);
        due("cell 39", x.cell(3, 39, 5), 1);
        due("cell 40", x.cell(3, 40, 5), -12);
        due("0", x.sheet(3, 1, 0), 1);
        due("no cell", x.cell(3, 0, 5), -12);
        due("missing", x.sheet(3, -1, 99), 1);
        due("is missing", x.cell(3, 0, 5), -11);
        due("missing, n below 0", x.sheet(3, -1, -99), 1);
        x.citizen(50, 0);
        row(x, 0, 2, 5);
        due("5 is not 0", x.judge(0, 0), 0);
        x.sheet(0, 2, 1);
        due("all 0 again", x.judge(0, 0), -1);
        x.sheet(0, 2, -1);
        due("a refusal leaves it", x.judge(0, 0), -1);
    }

    /** Whether the one number of a sheet is v: one comes by it, as of citizen(), or not. */
    private static int eggsBy(KeysForSecond x, int sort, int v) {
        row(x, 0, sort, 0, v);
        x.image();
        int answer = x.peopleBy(0, sort, 0, 1) == 1 ? 100 * x.told(x.count(0) - 1, 0) + x.told(x.count(0) - 1, 1) : -1;
        x.back();
        return answer;
    }

    private static void promise36() {
        KeysForSecond x = new KeysForSecond();
        due("sheet 4", x.cell(4, 0, 1), -2);
        due("sheet -1", x.cell(-1, 0, 1), -2);
        due("missing", x.cell(0, 99, 1), -11);
        x.sheet(0, 0, 3);
        due("place 3", x.cell(0, 3, 1), -12);
        due("place -1", x.cell(0, -1, 1), -12);
        due("place MIN", x.cell(0, MIN, 1), -12);
        due("place MAX", x.cell(0, MAX, 1), -12);
        due("place 0", x.cell(0, 0, 1), 1);
        due("place 2", x.cell(0, 2, 1), 1);
        due("a byte", eggsBy(x, 0, 127), 127);
        due("a byte's lowest 8 bits", eggsBy(x, 0, 256 + 101), 101);
        due("a byte below 0", eggsBy(x, 0, 200), -1);
        due("a byte from below", eggsBy(x, 0, -246), 10);
        due("a short", eggsBy(x, 1, 799), 799);
        due("a short's lowest 16 bits", eggsBy(x, 1, 65536 * 7 + 511), 511);
        due("a short below 0", eggsBy(x, 1, 65535), -1);
        due("an int", eggsBy(x, 2, 799), 799);
        due("all of an int", eggsBy(x, 2, 65536 + 511), -1);
        due("an int of 257", eggsBy(x, 2, 257), 257);
        due("a short of 257", eggsBy(x, 1, 257), 257);
        due("a byte of 257", eggsBy(x, 0, 257), 1);
    }

    private static void promise37() {
        KeysForSecond x = two();
        row(x, 0, 2, 31, 31, 39, 39);
        x.sheet(1, 2, 3);
        x.sheet(2, 1, 3);
        due("sheet 4", x.copy(4, 0, 3, 0, 1), -2);
        due("other sheet -1", x.copy(3, 0, -1, 0, 1), -2);
        due("missing", x.copy(3, 0, 0, 9, 1), -11);
        due("other missing", x.copy(0, 9, 3, 0, 1), -11);
        due("unlike sorts", x.copy(0, 9, 2, 9, -1), -13);
        due("n -1", x.copy(0, 0, 1, 0, -1), -12);
        due("n MIN", x.copy(0, 0, 1, 0, MIN), -12);
        due("from -1", x.copy(0, -1, 1, 0, 1), -12);
        due("to -1", x.copy(0, 0, 1, -1, 1), -12);
        due("too far from", x.copy(0, 3, 1, 0, 2), -12);
        due("too far to", x.copy(0, 0, 1, 2, 2), -12);
        due("four into three", x.copy(0, 0, 1, 0, 4), -12);
        due("n MAX", x.copy(0, 1, 1, 1, MAX), -12);
        due("i MAX", x.copy(0, MAX, 1, 0, 1), -12);
        due("j MAX", x.copy(0, 0, 1, MAX, 1), -12);
        due("nothing came", x.judge(1, 0), 0);
        due("two", x.copy(0, 0, 1, 0, 2), 2);
        due("31, 31, 0", x.judge(1, 0), 2);
        due("from the second on", x.copy(0, 1, 1, 2, 1), 1);
        due("31, 31, 31", x.judge(1, 0), -1);
        due("none", x.copy(0, 0, 1, 0, 0), 0);
        due("none at the end", x.copy(0, 4, 1, 3, 0), 0);
        due("none beyond the end", x.copy(0, 5, 1, 3, 0), -12);
        row(x, 0, 2, 1, 31, 31, 31);
        due("back on its own", x.copy(0, 1, 0, 0, 3), 3);
        due("31, 31, 31, 31", x.judge(0, 0), -1);
        row(x, 0, 2, 31, 39, 1, 2, 3);
        due("ahead on its own, as they were", x.copy(0, 0, 0, 1, 4), 4);
        due("31, 31, 39", x.judge(0, 0), 2);
        x.cell(0, 2, 31);
        due("31, 31, 31, 1", x.judge(0, 0), 3);
    }

    private static void promise38() {
        KeysForSecond x = new KeysForSecond();
        due("sheet 4", x.peopleBy(4, 0, 0, 1), -2);
        due("sheet -1", x.peopleBy(-1, 0, 0, 1), -2);
        due("sort 3", x.peopleBy(0, 3, 0, 1), -2);
        due("sort -1", x.peopleBy(0, -1, 0, 1), -2);
        due("n 7", x.peopleBy(0, 0, 0, 7), -2);
        due("n -1", x.peopleBy(0, 0, 0, -1), -2);
        due("missing", x.peopleBy(0, 0, 99, 1), -11);
        row(x, 0, 1, 9, 21, 105, 60, 1, 32, 203, 799);
        due("another sort", x.peopleBy(0, 2, 99, 1), -13);
        due("place -1", x.peopleBy(0, 1, -1, 1), -12);
        due("place 8", x.peopleBy(0, 1, 8, 1), -12);
        due("place 7, the second is outside", x.peopleBy(0, 1, 7, 1), -12);
        due("place MAX", x.peopleBy(0, 1, MAX, 2), -12);
        due("place MIN", x.peopleBy(0, 1, MIN, 2), -12);
        due("nobody came", x.count(0), 0);
        due("none", x.peopleBy(0, 1, 0, 0), 0);
        due("one is left out", x.peopleBy(0, 1, 1, 3), 2);
        due("two", x.count(0), 2);
        due("kind of 0", x.told(0, 3), 2);
        due("more of 0", x.told(0, 4), 1);
        due("door of 0", x.told(0, 0), 1);
        due("eggs of 0", x.told(0, 1), 5);
        due("kind of 1", x.told(1, 3), 3);
        due("door of 1", x.told(1, 0), 2);
        due("eggs of 1", x.told(1, 1), 3);
        due("what stood ahead came", x.peopleBy(0, 1, 1, 4), -12);
        due("two more", x.count(0), 4);
        row(x, 1, 0, 0, 1, 0, 2, 0, 3, 0, 4, 0, 5, 0, 6);
        due("full behind two", x.peopleBy(1, 0, 0, 6), 2);
        due("six", x.count(0), 6);
        due("the last one", x.told(5, 1), 2);
        due("full", x.peopleBy(1, 0, 0, 6), 0);
        due("full, then outside", x.peopleBy(1, 0, 2, 6), -12);
    }

    private static void promise39() {
        KeysForSecond x = town(0, 0, 10, 0, 20, 0, 30, 0, 40, 0);
        int[] due = {0b000001, 0b000011, 0b000101, 0b001011, 0b010101};
        for (int p = 0; p < 5; p++) {
            for (int kind = 0; kind < 6; kind++) {
                due("one of kind " + p + " as " + kind, x.taken(p, kind), (due[p] >> kind & 1) != 0 ? p : -13);
            }
            due("one as a door", x.taken(p, 6), -13);
        }
        due("nobody at 5", x.taken(5, 0), -11);
        due("nobody at 5 as a door", x.taken(5, 6), -11);
        x.citizen(50, 0);
        for (int kind = 0; kind < 7; kind++) {
            due("a rude one as " + kind, x.taken(5, kind), kind == 0 || kind == 5 ? 5 : -13);
        }
        x.town(1, 0, 33);
        x.town(1, 7, 44);
        due("door 0", x.taken(6, 6), 33);
        due("door 1", x.taken(7, 6), 10);
        due("door 7", x.taken(13, 6), 44);
        for (int kind = 0; kind < 6; kind++) {
            due("a door as " + kind, x.taken(13, kind), -13);
        }
        due("place 14", x.taken(14, 6), -12);
        due("place -1", x.taken(-1, 0), -12);
        due("kind 7", x.taken(14, 7), -2);
        due("kind -1", x.taken(0, -1), -2);
    }
}
