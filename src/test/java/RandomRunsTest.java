import java.util.ArrayList;
import java.util.List;
import java.util.Map;
import java.util.Random;

/**
 * Long runs of calls drawn by fixed seeds, answered by the class and by a model of the document that is written
 * another way: kinds as classes, texts as trees, sheets as Java's own arrays with Java's own refusals.
 */
public final class RandomRunsTest {
    private static final int RUNS = 1500;
    private static final int CALLS = 512;
    private static final int TEXTS = 20000;

    private static final String[] NAMES = {
        "count", "town", "door", "feed", "text", "force", "asks", "citizen", "put", "told",
        "twist", "give", "minute", "run", "when", "waits",
        "pair", "stand", "rounds", "tries", "share",
        "judge", "kinds", "doors", "baskets", "firsts", "whose", "laws", "film",
        "drawn", "odds", "image", "back",
        "sheet", "cell", "copy", "peopleBy", "taken"};

    public static void main(String[] args) {
        long calls = 0;
        for (int run = 0; run < RUNS; run++) {
            Run one = new Run(run);
            if (!one.agrees()) {
                System.exit(1);
            }
            calls += CALLS;
        }
        for (int i = 0; i < TEXTS; i++) {
            Run one = new Run(i);
            if (!one.agreesOnText()) {
                System.exit(1);
            }
        }
        System.out.println(RUNS + " runs, " + calls + " calls, " + TEXTS + " texts, all agree with the model");
    }

    /** One run: the class, the model, and what has been called so far. */
    private static final class Run {
        final int number;
        final Random random;
        final KeysForSecond real = new KeysForSecond();
        final Model model = new Model();
        final List<String> told = new ArrayList<>();
        String textToFeed = "";
        int[] film = {0, 0, 0};

        Run(int number) {
            this.number = number;
            this.random = new Random(number);
        }

        boolean agrees() {
            for (int i = 0; i < CALLS; i++) {
                String name = i < 12 && number % 3 != 0 ? opening(i) : textToFeed.isEmpty() ? next() : "feed";
                int[] a = arguments(name);
                long want = model.call(name, a);
                long got;
                try {
                    got = real(name, a);
                } catch (RuntimeException | StackOverflowError e) {
                    return fails(name, a, "threw " + e, want);
                }
                StringBuilder row = new StringBuilder(name).append("(");
                for (int v : a) {
                    row.append(' ').append(v);
                }
                told.add(row.append(" ) = ").append(got).toString());
                if (got != want) {
                    return fails(name, a, "answered " + got, want);
                }
            }
            return true;
        }

        /** A text, its fault or its number, and what it says of somebody. */
        boolean agreesOnText() {
            textToFeed = new Texts(random).text();
            told.add(textToFeed);
            while (!textToFeed.isEmpty()) {
                int[] a = feeding();
                if (real("feed", a) != model.call("feed", a)) {
                    return fails("feed", a, "differs", 0);
                }
            }
            int[][] calls = {{}, {random.nextInt(60), random.nextInt(800)}, {0, random.nextInt(2), random.nextInt(100)},
                {1}, {0, 0}, {1, 0}, {2, 0}, {0, 5}, {0, 6}, {0, 7}, {0}, {0, 0}, {1, 0}, {2, 0}};
            String[] names = {"text", "citizen", "town",
                "force", "asks", "asks", "asks", "told", "told", "told", "twist", "asks", "asks", "asks"};
            for (int i = 0; i < calls.length; i++) {
                long want = model.call(names[i], calls[i]);
                long got = real(names[i], calls[i]);
                if (got != want) {
                    return fails(names[i], calls[i], "answered " + got, want);
                }
            }
            return true;
        }

        boolean fails(String name, int[] a, String what, long want) {
            for (String row : told) {
                System.out.println("  " + row);
            }
            System.out.println("run " + number + ": " + name + java.util.Arrays.toString(a) + " " + what
                + ", the model " + want);
            return false;
        }

        String opening(int i) {
            return i % 3 == 2 ? "town" : "citizen";
        }

        String next() {
            boolean full = model.texts.size() == 6;
            if (model.tape.length() > 0 && random.nextInt(full ? 30 : 3) == 0) {
                return "text";
            }
            if (random.nextInt(full ? 100 : 12) == 0) {
                textToFeed = new Texts(random).text();
                return model.tape.length() > 0 ? "text" : "feed";
            }
            if (random.nextInt(8) == 0) {
                return random.nextInt(4) == 0 ? "minute" : "film";
            }
            String name = NAMES[random.nextInt(NAMES.length)];
            boolean seldom = name.equals("feed") || name.equals("back") || name.equals("sheet");
            return seldom && random.nextInt(4) != 0 ? "laws" : name;
        }

        int pick(int least, int most) {
            int lot = random.nextInt(40);
            if (lot == 0) {
                return least - 1;
            }
            if (lot == 1) {
                return most + 1;
            }
            if (lot == 2) {
                return random.nextInt();
            }
            if (lot == 3) {
                return random.nextBoolean() ? Integer.MAX_VALUE : Integer.MIN_VALUE;
            }
            return lot < 7 ? least : lot < 10 ? most : least + random.nextInt(most - least + 1);
        }

        int person() {
            return pick(0, Math.max(0, model.people.size() - 1));
        }

        int[] arguments(String name) {
            switch (name) {
                case "count": return new int[] {pick(0, 5)};
                case "town": {
                    int what = pick(0, 2);
                    return new int[] {what, pick(0, 7), what == 0 ? pick(0, 9999) : what == 1 ? pick(0, 99) : pick(-1, 5)};
                }
                case "door": return new int[] {pick(0, 7), pick(0, 3)};
                case "feed": return feeding();
                case "text": case "minute": case "image": case "back": return new int[0];
                case "force": return new int[] {pick(0, 5)};
                case "asks": return new int[] {pick(0, 2), person()};
                case "citizen": return new int[] {pick(0, 59), pick(0, 799)};
                case "put": return new int[] {person(), pick(0, 1), pick(0, random.nextBoolean() ? 7 : 99)};
                case "told": return new int[] {person(), pick(0, 8)};
                case "twist": case "waits": return new int[] {person()};
                case "give": return new int[] {person(), person(), pick(0, random.nextBoolean() ? 9 : 99)};
                case "run": return new int[] {pick(0, 60), random.nextInt(3) == 0 ? pick(0, 2) : pick(1, 3) * 10 + person()};
                case "when": return new int[] {pick(0, 9)};
                case "pair": case "tries": return new int[] {pick(0, 1)};
                case "stand": return new int[] {person(), pick(0, 40), pick(0, 1)};
                case "rounds": return new int[] {pick(0, 40), pick(0, 1)};
                case "share": return new int[] {person(), pick(0, 1)};
                case "judge": case "doors": case "laws": return new int[] {filmed(0), filmed(1)};
                case "kinds": case "baskets": return new int[] {filmed(0), filmed(1), pick(0, 1)};
                case "firsts": return new int[] {filmed(0), filmed(1), pick(0, 7)};
                case "whose": return new int[] {filmed(0)};
                case "film": return film = new int[] {pick(0, 3), person(), pick(0, random.nextBoolean() ? 4 : 20)};
                case "drawn": return new int[] {pick(0, 99999), pick(0, 60), pick(0, 1)};
                case "odds": return new int[] {pick(0, 99999), pick(1, 40), pick(0, 8), pick(0, 1)};
                case "sheet": return new int[] {pick(0, 3), pick(-1, 2), pick(0, 40)};
                case "cell": return new int[] {pick(0, 3), pick(0, 12), cellValue()};
                case "copy": return new int[] {pick(0, 3), pick(0, 12), pick(0, 3), pick(0, 12), pick(0, 12)};
                case "peopleBy": return new int[] {pick(0, 3), pick(0, 2), pick(0, 12), pick(0, 6)};
                default: return new int[] {pick(0, 13), pick(0, 6)};
            }
        }

        /** Mostly the sheet (0) and the one (1) of the last film, so that what it tells is often so. */
        int filmed(int i) {
            return random.nextInt(4) != 0 ? film[i] : i == 0 ? pick(0, 3) : person();
        }

        int cellValue() {
            int lot = random.nextInt(4);
            return lot == 0 ? random.nextInt() : lot == 1 ? pick(0, 59) : lot == 2 ? pick(0, 799) : pick(-300, 300);
        }

        int[] feeding() {
            if (textToFeed.isEmpty()) {
                return new int[] {pick(1, 5), pick(0, 255), pick(0, 255), pick(0, 255), pick(0, 255), pick(0, 255)};
            }
            int n = Math.min(5, textToFeed.length());
            int[] a = {n, 0, 0, 0, 0, 0};
            for (int i = 0; i < n; i++) {
                a[i + 1] = textToFeed.charAt(i);
            }
            textToFeed = textToFeed.substring(n);
            return a;
        }

        long real(String name, int[] a) {
            switch (name) {
                case "count": return real.count(a[0]);
                case "town": return real.town(a[0], a[1], a[2]);
                case "door": return real.door(a[0], a[1]);
                case "feed": return real.feed(a[0], a[1], a[2], a[3], a[4], a[5]);
                case "text": return real.text();
                case "force": return real.force(a[0]);
                case "asks": return real.asks(a[0], a[1]);
                case "citizen": return real.citizen(a[0], a[1]);
                case "put": return real.put(a[0], a[1], a[2]);
                case "told": return real.told(a[0], a[1]);
                case "twist": return real.twist(a[0]);
                case "give": return real.give(a[0], a[1], a[2]);
                case "minute": return real.minute();
                case "run": return real.run(a[0], a[1]);
                case "when": return real.when(a[0]);
                case "waits": return real.waits(a[0]);
                case "pair": return real.pair(a[0]);
                case "stand": return real.stand(a[0], a[1], a[2]);
                case "rounds": return real.rounds(a[0], a[1]);
                case "tries": return real.tries(a[0]);
                case "share": return real.share(a[0], a[1]);
                case "judge": return real.judge(a[0], a[1]);
                case "kinds": return real.kinds(a[0], a[1], a[2]);
                case "doors": return real.doors(a[0], a[1]);
                case "baskets": return real.baskets(a[0], a[1], a[2]);
                case "firsts": return real.firsts(a[0], a[1], a[2]);
                case "whose": return real.whose(a[0]);
                case "laws": return real.laws(a[0], a[1]);
                case "film": return real.film(a[0], a[1], a[2]);
                case "drawn": return real.drawn(a[0], a[1], a[2]);
                case "odds": return real.odds(a[0], a[1], a[2], a[3]);
                case "image": return real.image();
                case "back": return real.back();
                case "sheet": return real.sheet(a[0], a[1], a[2]);
                case "cell": return real.cell(a[0], a[1], a[2]);
                case "copy": return real.copy(a[0], a[1], a[2], a[3], a[4]);
                case "peopleBy": return real.peopleBy(a[0], a[1], a[2], a[3]);
                default: return real.taken(a[0], a[1]);
            }
        }
    }

    /** Texts by lots, some with a fault. */
    private static final class Texts {
        static final String[] ONES = {
            "door", "eggs", "minute", "tried", "came", "more", "0", "1", "2", "3", "7", "20", "99", "9999"};
        static final String[] BETWEEN = {" or ", " and ", " < ", "=", "+", "-", "*"};
        static final String ODD = "()+-*<=; \n\t0123456789azorandnotdoor\u00e9A";
        final Random random;

        Texts(Random random) {
            this.random = random;
        }

        String text() {
            String all = "tries " + e(3) + "; pays " + e(3) + ";goes " + e(3) + ";";
            if (random.nextInt(4) == 0) {
                StringBuilder odd = new StringBuilder(all);
                for (int i = 0; i < 1 + random.nextInt(2); i++) {
                    int at = random.nextInt(odd.length());
                    char sign = ODD.charAt(random.nextInt(ODD.length()));
                    if (random.nextBoolean()) {
                        odd.setCharAt(at, sign);
                    } else if (random.nextBoolean()) {
                        odd.insert(at, sign);
                    } else {
                        odd.deleteCharAt(at);
                    }
                }
                all = odd.toString();
            }
            return all.substring(0, Math.min(all.length(), 160));
        }

        String e(int depth) {
            int lot = random.nextInt(10);
            if (depth == 0 || lot < 3) {
                return ONES[random.nextInt(ONES.length)];
            }
            if (lot == 3) {
                return "not " + e(depth - 1);
            }
            if (lot == 4) {
                return "- " + e(depth - 1);
            }
            if (lot == 5) {
                return "(" + e(depth - 1) + ")";
            }
            return e(depth - 1) + BETWEEN[random.nextInt(BETWEEN.length)] + e(depth - 1);
        }
    }

    // ---- the model: people

    private static class Citizen {
        int more, door, eggs, came;

        boolean tries(Model m) {
            return m.says(this, 0) != 0;
        }

        int pays(Model m) {
            return m.says(this, 1);
        }

        int goes(Model m) {
            return Integer.signum(m.says(this, 2));
        }
    }

    private static class Early extends Citizen {
        @Override boolean tries(Model m) {
            return m.untried(this) || super.tries(m);
        }

        @Override int goes(Model m) {
            return 1;
        }
    }

    private static class Doctor extends Citizen {
        @Override boolean tries(Model m) {
            return super.tries(m) && !m.untried(this);
        }

        @Override int pays(Model m) {
            return Math.max(0, super.pays(m) + more);
        }
    }

    private static final class Banker extends Early {
        @Override boolean tries(Model m) {
            return super.tries(m) && m.untried(this);
        }

        @Override int goes(Model m) {
            return m.minute % 20 < more ? super.goes(m) : -super.goes(m);
        }
    }

    private static final class Burglar extends Doctor {
        @Override boolean tries(Model m) {
            return (m.minute & 1) == 0 ? super.tries(m) : m.untried(this);
        }

        @Override int pays(Model m) {
            return 0;
        }
    }

    private static final class Rude extends Citizen {
        @Override int pays(Model m) {
            return super.pays(m) / 2;
        }

        @Override int goes(Model m) {
            return 0;
        }
    }

    private static final Class<?>[] KINDS = {
        Citizen.class, Early.class, Doctor.class, Banker.class, Burglar.class, Rude.class};

    private static Citizen of(int kind) {
        return kind == 0 ? new Citizen() : kind == 1 ? new Early() : kind == 2 ? new Doctor()
            : kind == 3 ? new Banker() : kind == 4 ? new Burglar() : new Rude();
    }

    private static final class Door {
        int behind = 10;
        Citizen first, second;
    }

    // ---- the model: texts as trees

    private interface Tree {
        int of(Map<String, Integer> names);
    }

    private static final class Fault extends RuntimeException {
        private static final long serialVersionUID = 1;
        final int place;

        Fault(int place) {
            this.place = place;
        }
    }

    private static final class Parser {
        final List<String> tokens = new ArrayList<>();
        final List<Integer> places = new ArrayList<>();
        int at = 0;
        int open = 0;

        Parser(String tape) {
            java.util.regex.Matcher m = java.util.regex.Pattern
                .compile("[ \n]*([a-z]+|[0-9]+|[();+*<=-]|[^ \n])", java.util.regex.Pattern.DOTALL).matcher(tape);
            while (m.find()) {
                tokens.add(m.group(1));
                places.add(m.start(1));
            }
            tokens.add("");
            places.add(tape.length());
        }

        boolean is(String token) {
            return tokens.get(at).equals(token);
        }

        Fault fault() {
            return new Fault(places.get(at));
        }

        boolean takes(String token) {
            if (is(token)) {
                at++;
                return true;
            }
            return false;
        }

        void due(String token) {
            if (!takes(token)) {
                throw fault();
            }
        }

        void opens() {
            if (open == 5) {
                throw fault();
            }
            open++;
            at++;
        }

        Tree[] text() {
            Tree[] parts = new Tree[3];
            String[] keys = {"tries", "pays", "goes"};
            for (int i = 0; i < 3; i++) {
                due(keys[i]);
                parts[i] = e();
                due(";");
            }
            if (at != tokens.size() - 1) {
                throw fault();
            }
            return parts;
        }

        Tree e() {
            Tree left = and();
            while (takes("or")) {
                Tree a = left;
                Tree b = and();
                left = n -> a.of(n) != 0 | b.of(n) != 0 ? 1 : 0;
            }
            return left;
        }

        Tree and() {
            Tree left = not();
            while (takes("and")) {
                Tree a = left;
                Tree b = not();
                left = n -> a.of(n) != 0 & b.of(n) != 0 ? 1 : 0;
            }
            return left;
        }

        Tree not() {
            if (is("not")) {
                opens();
                Tree a = not();
                open--;
                return n -> a.of(n) == 0 ? 1 : 0;
            }
            Tree a = sum();
            if (takes("<")) {
                Tree b = sum();
                return n -> a.of(n) < b.of(n) ? 1 : 0;
            }
            if (takes("=")) {
                Tree b = sum();
                return n -> a.of(n) == b.of(n) ? 1 : 0;
            }
            return a;
        }

        Tree sum() {
            Tree left = term();
            while (is("+") || is("-")) {
                boolean plus = takes("+");
                if (!plus) {
                    at++;
                }
                Tree a = left;
                Tree b = term();
                left = n -> plus ? a.of(n) + b.of(n) : a.of(n) - b.of(n);
            }
            return left;
        }

        Tree term() {
            Tree left = one();
            while (takes("*")) {
                Tree a = left;
                Tree b = one();
                left = n -> a.of(n) * b.of(n);
            }
            return left;
        }

        Tree one() {
            String token = tokens.get(at);
            if (token.matches("[0-9]{1,4}")) {
                at++;
                return n -> Integer.parseInt(token);
            }
            if (List.of("door", "eggs", "minute", "tried", "came", "more").contains(token)) {
                at++;
                return n -> n.get(token);
            }
            if (is("-")) {
                opens();
                Tree a = one();
                open--;
                return n -> -a.of(n);
            }
            if (is("(")) {
                opens();
                Tree a = e();
                due(")");
                open--;
                return a;
            }
            throw fault();
        }
    }

    // ---- the model: the town

    private static final class Model {
        static final long NO = -4611686018427387904L;
        List<Citizen> people = new ArrayList<>();
        Door[] doors = new Door[8];
        int minute = 0;
        int law = 0;
        List<Tree[]> texts = new ArrayList<>();
        StringBuilder tape = new StringBuilder();
        Object[] sheets = new Object[4];
        Model image = null;
        int tries2 = 0;

        Model() {
            for (int d = 0; d < 8; d++) {
                doors[d] = new Door();
            }
            texts.add(new Parser("tries 1 ; pays 2 ; goes 1 ;").text());
        }

        /** The same town again, in thought; who is of another kind or none is left to the caller. */
        Model thought() {
            Model m = new Model();
            m.texts = texts;
            m.minute = minute;
            m.law = law;
            for (Citizen c : people) {
                m.people.add(again(c, kindOf(c)));
            }
            for (int d = 0; d < 8; d++) {
                m.doors[d].behind = doors[d].behind;
                m.doors[d].first = m.one(people.indexOf(doors[d].first));
                m.doors[d].second = m.one(people.indexOf(doors[d].second));
            }
            return m;
        }

        static Citizen again(Citizen c, int kind) {
            Citizen n = of(kind);
            n.more = c.more;
            n.door = c.door;
            n.eggs = c.eggs;
            n.came = c.came;
            return n;
        }

        static int kindOf(Citizen c) {
            for (int k = 0; k < 6; k++) {
                if (KINDS[k] == c.getClass()) {
                    return k;
                }
            }
            return -1;
        }

        Citizen one(int p) {
            return p >= 0 && p < people.size() ? people.get(p) : null;
        }

        boolean untried(Citizen c) {
            return doors[c.door].first == null;
        }

        int says(Citizen c, int part) {
            int v = texts.get(law)[part].of(Map.of("door", c.door, "eggs", c.eggs, "minute", minute % 20,
                "tried", untried(c) ? 0 : 1, "came", c.came, "more", c.more));
            return v > 99 ? 99 : part == 2 ? Math.max(v, -99) : Math.max(v, 0);
        }

        int attempt(Citizen c, int door) {
            Door d = doors[door];
            if (d.first == null) {
                d.first = c;
                return 0;
            }
            if (d.first == c) {
                return 1;
            }
            for (int i = c.pays(this); i > 0 && c.eggs > 0 && d.first.eggs < 99; i--) {
                c.eggs--;
                d.first.eggs++;
            }
            for (; d.behind > 0 && c.eggs < 99; d.behind--) {
                c.eggs++;
            }
            if (c.came < 99) {
                c.came++;
            }
            d.second = c;
            d.first = c;
            return 2;
        }

        int pass() {
            int bits = 0;
            for (int p = 0; p < people.size(); p++) {
                Citizen c = people.get(p);
                if (c.tries(this)) {
                    bits |= attempt(c, c.door) == 2 ? 1 << p : 0;
                }
                c.door = (c.door + c.goes(this) + 8) % 8;
            }
            minute++;
            if (minute % 20 == 0) {
                for (Door d : doors) {
                    d.first = null;
                    d.second = null;
                }
            }
            return bits;
        }

        Model after(int n) {
            Model m = thought();
            for (int i = 0; i < n; i++) {
                m.pass();
            }
            return m;
        }

        int seconds() {
            int bits = 0;
            for (int d = 0; d < 8; d++) {
                bits |= doors[d].second != null ? 1 << d : 0;
            }
            return bits;
        }

        boolean in(int v, int least, int most) {
            return v >= least && v <= most;
        }

        int sumBehind() {
            int sum = 0;
            for (Door d : doors) {
                sum += d.behind;
            }
            return sum;
        }

        long call(String name, int[] a) {
            switch (name) {
                case "count": return count(a[0]);
                case "town": return town(a[0], a[1], a[2]);
                case "door": return door(a[0], a[1]);
                case "feed": return feed(a);
                case "text": return text();
                case "force": return force(a[0]);
                case "asks": return in(a[0], 0, 2) && one(a[1]) != null ? says(one(a[1]), a[0]) : -1000;
                case "citizen": return citizen(a[0], a[1]);
                case "put": return put(a[0], a[1], a[2]);
                case "told": return told(one(a[0]), a[1]);
                case "twist": return one(a[0]) == null ? -5 : attempt(one(a[0]), one(a[0]).door);
                case "give": return give(one(a[0]), one(a[1]), a[2]);
                case "minute": return minute == 9999 ? -3 : pass();
                case "run": return run(a[0], a[1]);
                case "when": return when(a[0]);
                case "waits": return waits(a[0]);
                case "pair": return pair(a[0]);
                case "stand": return stand(a[0], a[1], a[2]);
                case "rounds": return rounds(a[0], a[1]);
                case "tries": return tries(a[0]);
                case "share": return share(a[0], a[1]);
                case "drawn": return drawn(a[0], a[1], a[2]);
                case "odds": return odds(a[0], a[1], a[2], a[3]);
                case "image": image = thought(); return people.size();
                case "back": return back();
                case "film": return film(a[0], a[1], a[2]);
                case "sheet": return sheet(a[0], a[1], a[2]);
                case "cell": return cell(a[0], a[1], a[2]);
                case "copy": return copy(a);
                case "peopleBy": return peopleBy(a[0], a[1], a[2], a[3]);
                case "taken": return taken(a[0], a[1]);
                default: return toldMinutes(name, a);
            }
        }

        long count(int what) {
            long[] all = {people.size(), minute, Integer.bitCount(seconds()), texts.size(), law, tape.length()};
            return in(what, 0, 5) ? all[what] : -2;
        }

        long town(int what, int d, int v) {
            if (what == 0) {
                int was = minute;
                minute = in(v, 0, 9999) ? v : minute;
                return in(v, 0, 9999) ? was : -7;
            }
            if (!in(what, 1, 2) || !in(d, 0, 7)) {
                return -5;
            }
            Door door = doors[d];
            if (what == 1) {
                int was = door.behind;
                door.behind = in(v, 0, 99) ? v : was;
                return in(v, 0, 99) ? was : -7;
            }
            if (v != -1 && one(v) == null) {
                return -7;
            }
            int was = people.indexOf(door.first);
            door.first = one(v);
            return was;
        }

        long door(int d, int what) {
            if (!in(d, 0, 7)) {
                return -5;
            }
            int at = 0;
            for (Citizen c : people) {
                at |= c.door == d ? 1 << people.indexOf(c) : 0;
            }
            long[] all = {people.indexOf(doors[d].first), people.indexOf(doors[d].second), doors[d].behind, at};
            return in(what, 0, 3) ? all[what] : -7;
        }

        long feed(int[] a) {
            for (int i = 1; i < 6; i++) {
                if (!in(a[i], 0, 255)) {
                    return -2;
                }
            }
            if (!in(a[0], 1, 5)) {
                return -2;
            }
            if (160 - tape.length() < a[0]) {
                return -4;
            }
            for (int i = 0; i < a[0]; i++) {
                tape.append((char) a[i + 1]);
            }
            return tape.length();
        }

        long text() {
            if (texts.size() == 6) {
                return -4;
            }
            String all = tape.toString();
            tape.setLength(0);
            try {
                texts.add(new Parser(all).text());
            } catch (Fault f) {
                return -100 - f.place;
            }
            return texts.size() - 1;
        }

        long force(int t) {
            if (!in(t, 0, texts.size() - 1)) {
                return -2;
            }
            int was = law;
            law = t;
            return was;
        }

        long citizen(int kindMore, int doorEggs) {
            if (!in(kindMore, 0, 59) || !in(doorEggs, 0, 799)) {
                return -2;
            }
            if (people.size() == 6) {
                return -4;
            }
            Citizen c = of(kindMore / 10);
            c.more = kindMore % 10;
            c.door = doorEggs / 100;
            c.eggs = doorEggs % 100;
            people.add(c);
            return people.size() - 1;
        }

        long put(int p, int what, int v) {
            Citizen c = one(p);
            if (c == null) {
                return -5;
            }
            if (!in(what, 0, 1) || !in(v, 0, what == 0 ? 7 : 99)) {
                return -7;
            }
            int was = what == 0 ? c.door : c.eggs;
            c.door = what == 0 ? v : c.door;
            c.eggs = what == 1 ? v : c.eggs;
            return was;
        }

        long told(Citizen c, int what) {
            if (c == null) {
                return -5;
            }
            if (!in(what, 0, 8)) {
                return -7;
            }
            Model m = thought();
            int would = m.attempt(m.one(people.indexOf(c)), c.door);
            long[] all = {c.door, c.eggs, c.came, kindOf(c), c.more, c.tries(this) ? 1 : 0, c.pays(this),
                c.goes(this) + 10, would};
            return all[what];
        }

        long give(Citizen c, Citizen to, int much) {
            if (c == null || to == null || c == to) {
                return -5;
            }
            if (!in(much, 0, 99)) {
                return -7;
            }
            if (c.eggs < much || to.eggs + much > 99) {
                return -3;
            }
            c.eggs -= much;
            to.eggs += much;
            return to.eggs;
        }

        long run(int n, int what) {
            boolean fit = in(what, 0, 2) || in(what, 10, 39) && what % 10 < people.size();
            if (!in(n, 0, 60) || !fit) {
                return -2;
            }
            Model m = after(n);
            if (what == 0) {
                return m.seconds();
            }
            if (what == 1) {
                int bits = 0;
                for (int d = 0; d < 8; d++) {
                    bits |= m.doors[d].first != null ? 1 << d : 0;
                }
                return bits;
            }
            if (what == 2) {
                return m.sumBehind();
            }
            Citizen c = m.one(what % 10);
            return what / 10 == 1 ? c.door : what / 10 == 2 ? c.eggs : c.came;
        }

        long when(int what) {
            if (!in(what, 0, 9)) {
                return -7;
            }
            for (int n = 0; n <= 60; n++) {
                Model m = after(n);
                boolean alone = false;
                for (Citizen c : m.people) {
                    int with = 0;
                    for (Citizen o : m.people) {
                        with += o.door == c.door ? 1 : 0;
                    }
                    alone |= with == 1;
                }
                if (what == 9 ? !alone : what == 8 ? m.seconds() == 255 : (m.seconds() >> what & 1) == 1) {
                    return n;
                }
            }
            return -1;
        }

        long waits(int p) {
            if (one(p) == null) {
                return -5;
            }
            Model m = thought();
            for (int n = 1; n <= 60; n++) {
                if ((m.pass() >> p & 1) == 1) {
                    return n;
                }
            }
            return -1;
        }

        long pair(int what) {
            if (!in(what, 0, 1)) {
                return -2;
            }
            int best = -1;
            int most = -1;
            for (int i = 0; i < 600; i++) {
                int p = i / 100;
                int q = i / 10 % 10;
                int d = i % 10;
                if (p != q && one(p) != null && one(q) != null && d < 8) {
                    Model m = thought();
                    m.attempt(m.one(p), d);
                    m.attempt(m.one(q), d);
                    if (m.one(q).eggs > most) {
                        most = m.one(q).eggs;
                        best = i;
                    }
                }
            }
            return what == 0 ? best : most;
        }

        long stand(int p, int n, int what) {
            if (one(p) == null) {
                return -5;
            }
            if (!in(n, 0, 40) || !in(what, 0, 1)) {
                return -7;
            }
            int[] eggs = new int[8];
            int best = 0;
            for (int d = 0; d < 8; d++) {
                Model m = thought();
                m.one(p).door = d;
                eggs[d] = m.after(n).one(p).eggs;
                best = eggs[d] > eggs[best] ? d : best;
            }
            return what == 0 ? best : eggs[best];
        }

        long rounds(int n, int what) {
            if (!in(n, 0, 40) || !in(what, 0, 1)) {
                return -2;
            }
            int most = Integer.bitCount(after(n).seconds());
            int best = -1;
            for (int p = 0; p < people.size(); p++) {
                Model m = thought();
                for (int d = 0; d < 8; d++) {
                    m.attempt(m.one(p), d);
                }
                int many = Integer.bitCount(m.after(n).seconds());
                if (many > most) {
                    most = many;
                    best = p;
                }
            }
            return what == 0 ? best : most;
        }

        /** By trying: the fewest tries door by door, each by whoever brings it further. */
        long tries(int what) {
            if (!in(what, 0, 1)) {
                return -2;
            }
            int without = 8 - Integer.bitCount(seconds());
            if (what == 1) {
                return without;
            }
            if (people.size() < 2) {
                return without == 0 ? 0 : -1;
            }
            int many = 0;
            for (int d = 0; d < 8; d++) {
                Model m = thought();
                for (int i = 0; m.doors[d].second == null; i++, many++) {
                    Citizen c = m.doors[d].first == m.one(0) ? m.one(1) : m.one(0);
                    m.attempt(c, d);
                }
            }
            return many;
        }

        long share(int p, int part) {
            int all = sumBehind();
            for (Citizen c : people) {
                all += c.eggs;
            }
            if (one(p) == null || !in(part, 0, 1) || all == 0) {
                return NO;
            }
            return lowest(one(p).eggs, all, part);
        }

        static long lowest(int above, int below, int part) {
            int by = java.math.BigInteger.valueOf(above).gcd(java.math.BigInteger.valueOf(below)).intValue();
            return part == 0 ? above / by : below / by;
        }

        Model byLots(int seed, int n) {
            Model m = thought();
            java.math.BigInteger lot = java.math.BigInteger.valueOf(seed + 1L);
            java.math.BigInteger times = java.math.BigInteger.valueOf(48271);
            java.math.BigInteger modulo = java.math.BigInteger.valueOf(2147483647);
            for (int i = 0; i < n; i++) {
                lot = lot.multiply(times).mod(modulo);
                Citizen c = m.one((int) (lot.longValue() % 6));
                lot = lot.multiply(times).mod(modulo);
                if (c != null) {
                    m.tries2 += m.attempt(c, (int) (lot.longValue() % 8)) == 2 ? 1 : 0;
                }
            }
            return m;
        }

        long drawn(int seed, int n, int what) {
            if (!in(seed, 0, 99999) || !in(n, 0, 60) || !in(what, 0, 1)) {
                return -2;
            }
            Model m = byLots(seed, n);
            return what == 0 ? m.seconds() : m.tries2;
        }

        long odds(int seed, int seeds, int least, int part) {
            if (!in(seed, 0, 99999) || !in(seeds, 1, 40) || !in(least, 0, 8) || !in(part, 0, 1)) {
                return NO;
            }
            int good = 0;
            for (int i = seed; i < seed + seeds; i++) {
                good += Integer.bitCount(byLots(i, 16).seconds()) >= least ? 1 : 0;
            }
            return lowest(good, seeds, part);
        }

        long back() {
            if (image == null) {
                return -3;
            }
            Model m = image.thought();
            people = m.people;
            doors = m.doors;
            minute = m.minute;
            law = m.law;
            return people.size();
        }

        // ---- told minutes

        int size(Object sheet) {
            return java.lang.reflect.Array.getLength(sheet);
        }

        int otherwise(Object sheet, int p) {
            Model m = thought();
            for (int i = 0; i < size(sheet); i++) {
                m.pass();
                if (java.lang.reflect.Array.getInt(sheet, i) != m.one(p).eggs) {
                    return i;
                }
            }
            return -1;
        }

        long toldMinutes(String name, int[] a) {
            if (!in(a[0], 0, 3)) {
                return -2;
            }
            Object sheet = sheets[a[0]];
            if (sheet == null) {
                return -11;
            }
            if (size(sheet) > 20) {
                return -2;
            }
            int bits = 0;
            if (name.equals("whose")) {
                for (int p = 0; p < people.size(); p++) {
                    bits |= otherwise(sheet, p) == -1 ? 1 << p : 0;
                }
                return bits;
            }
            int p = a[1];
            if (one(p) == null) {
                return -5;
            }
            if (name.equals("judge")) {
                return otherwise(sheet, p);
            }
            int sort = a.length > 2 ? a[2] : 0;
            if (!in(sort, 0, name.equals("firsts") ? 7 : 1)) {
                return -7;
            }
            int many = 0;
            int least = -1;
            for (int v = 0; v < 100; v++) {
                Model m = supposed(name, p, sort, v);
                if (m != null && m.otherwise(sheet, p) == -1) {
                    bits |= v < 31 ? 1 << v : 0;
                    many++;
                    least = least == -1 ? v : least;
                }
            }
            return !name.equals("baskets") ? bits : sort == 0 ? many : least;
        }

        Model supposed(String name, int p, int sort, int v) {
            Model m = thought();
            Citizen c = m.one(p);
            if (name.equals("kinds") && sort == 0 && v < 6) {
                Citizen other = again(c, v);
                m.people.set(p, other);
                for (Door d : m.doors) {
                    d.first = d.first == c ? other : d.first;
                    d.second = d.second == c ? other : d.second;
                }
            } else if (name.equals("kinds") && sort == 1 && v < 10) {
                c.more = v;
            } else if (name.equals("doors") && v < 8) {
                c.door = v;
            } else if (name.equals("baskets")) {
                c.eggs = v;
            } else if (name.equals("firsts") && (v == 6 || m.one(v) != null)) {
                m.doors[sort].first = m.one(v);
            } else if (name.equals("laws") && v < texts.size()) {
                m.law = v;
            } else {
                return null;
            }
            return m;
        }

        long film(int s, int p, int n) {
            if (!in(s, 0, 3)) {
                return -2;
            }
            if (one(p) == null) {
                return -5;
            }
            if (!in(n, 0, 20)) {
                return -7;
            }
            byte[] row = new byte[n];
            for (int i = 0; i < n; i++) {
                row[i] = (byte) after(i + 1).one(p).eggs;
            }
            sheets[s] = row;
            return n;
        }

        // ---- the host

        long sheet(int s, int sort, int n) {
            if (!in(s, 0, 3) || !in(sort, -1, 2) || sort != -1 && n > 40) {
                return -2;
            }
            try {
                sheets[s] = sort == -1 ? null : sort == 0 ? new byte[n] : sort == 1 ? new short[n] : new int[n];
            } catch (NegativeArraySizeException e) {
                return -14;
            }
            return 1;
        }

        long cell(int s, int i, int v) {
            if (!in(s, 0, 3)) {
                return -2;
            }
            if (sheets[s] == null) {
                return -11;
            }
            try {
                if (sheets[s] instanceof byte[] b) {
                    b[i] = (byte) v;
                } else if (sheets[s] instanceof short[] t) {
                    t[i] = (short) v;
                } else {
                    ((int[]) sheets[s])[i] = v;
                }
            } catch (ArrayIndexOutOfBoundsException e) {
                return -12;
            }
            return 1;
        }

        long copy(int[] a) {
            if (!in(a[0], 0, 3) || !in(a[2], 0, 3)) {
                return -2;
            }
            try {
                System.arraycopy(sheets[a[0]], a[1], sheets[a[2]], a[3], a[4]);
            } catch (NullPointerException e) {
                return -11;
            } catch (ArrayStoreException e) {
                return -13;
            } catch (IndexOutOfBoundsException e) {
                return -12;
            }
            return a[4];
        }

        long peopleBy(int s, int sort, int from, int n) {
            if (!in(s, 0, 3) || !in(sort, 0, 2) || !in(n, 0, 6)) {
                return -2;
            }
            Object sheet = sheets[s];
            if (sheet == null) {
                return -11;
            }
            Class<?>[] sorts = {byte[].class, short[].class, int[].class};
            if (!sorts[sort].isInstance(sheet)) {
                return -13;
            }
            int many = 0;
            try {
                for (int k = 0; k < n; k++) {
                    int kindMore = java.lang.reflect.Array.getInt(sheet, from + 2 * k);
                    int doorEggs = java.lang.reflect.Array.getInt(sheet, from + 2 * k + 1);
                    many += citizen(kindMore, doorEggs) >= 0 ? 1 : 0;
                }
            } catch (ArrayIndexOutOfBoundsException e) {
                return -12;
            }
            return many;
        }

        long taken(int i, int kind) {
            if (!in(kind, 0, 6)) {
                return -2;
            }
            if (!in(i, 0, 13)) {
                return -12;
            }
            Object there = i < 6 ? one(i) : doors[i - 6];
            if (there == null) {
                return -11;
            }
            Class<?> wanted = kind == 6 ? Door.class : KINDS[kind];
            if (!wanted.isInstance(there)) {
                return -13;
            }
            return i < 6 ? i : ((Door) there).behind;
        }
    }
}
