import java.util.ArrayList;
import java.util.List;
import java.util.NoSuchElementException;
import java.util.Random;

/** Random runs of calls, at most 512 an object, on the class and on the Oracle: each answer must be the same. */
public final class OracleTest {
    private static final int THROWN = 123456789;

    private final Random random;
    private final WishRoom room = new WishRoom();
    private final Oracle oracle = new Oracle();
    private final List<String> story = new ArrayList<>();
    private final int atoms;
    private final int mayPercent;
    private final int wildPercent;
    private final int slowPercent;
    private int calls = 0;
    private boolean wrong = false;

    private OracleTest(long seed) {
        random = new Random(seed);
        atoms = 1 + random.nextInt(7);
        mayPercent = random.nextInt(60);
        wildPercent = random.nextInt(10) == 0 ? 60 : random.nextInt(8);
        slowPercent = random.nextInt(40);
    }

    public static void main(String[] args) {
        int runs = args.length > 0 ? Integer.parseInt(args[0]) : 400;
        long first = args.length > 1 ? Long.parseLong(args[1]) : 1;
        int bad = 0;
        long calls = 0;
        for (long seed = first; seed < first + runs; seed++) {
            OracleTest test = new OracleTest(seed);
            test.run();
            calls += test.calls;
            if (test.wrong) {
                bad++;
                System.out.println("seed " + seed + ":");
                test.story.forEach(row -> System.out.println("  " + row));
            }
            if (bad > 2) {
                break;
            }
        }
        System.out.println(runs + " runs, " + calls + " calls, " + bad + " wrong");
        if (bad != 0) {
            System.exit(1);
        }
    }

    private int upTo(int n) {
        return random.nextInt(n + 1);
    }

    private boolean chance(int percent) {
        return random.nextInt(100) < percent;
    }

    /** Mostly 0 to n - 1, now and then a number that is none. */
    private int oneOf(int n) {
        if (chance(4)) {
            int[] odd = {-1, n, n + 1, Integer.MIN_VALUE, Integer.MAX_VALUE, -2, 1 << 30};
            return odd[random.nextInt(odd.length)];
        }
        return n <= 0 ? 0 : random.nextInt(n);
    }

    private void due(String call, int got, int want) {
        calls++;
        if (got != want) {
            wrong = true;
        }
        story.add(call + " -> " + got + (got == want ? "" : "   DUE " + want));
    }

    private void due(String call, boolean got, boolean want) {
        due(call, got ? 1 : 0, want ? 1 : 0);
    }

    private void run() {
        if (chance(90)) {
            readLaw();
        }
        int pollAt = random.nextInt(120);
        for (int i = 0; i < 400 && calls < 440 && !wrong; i++) {
            if (i == pollAt) {
                poll();
            }
            if (chance(i < 60 ? 60 : 25)) {
                change();
            } else {
                ask();
            }
        }
    }

    // ---- texts

    private String atom() {
        return String.valueOf((char) ('a' + random.nextInt(atoms)));
    }

    private String part(int depth) {
        int kind = random.nextInt(20);
        if (depth > 0 && kind < 5) {
            return "not " + part(depth - 1);
        }
        if (depth > 0 && kind < 9) {
            return "(" + saying(depth - 1) + ")";
        }
        if (kind < 11) {
            return counted();
        }
        if (kind == 11) {
            return chance(50) ? "true" : "false";
        }
        return atom();
    }

    private String counted() {
        StringBuilder all = new StringBuilder(chance(50) ? "most" : "least");
        all.append(' ').append(chance(5) ? upTo(12) : upTo(Math.min(7, atoms))).append(chance(50) ? "of(" : " of ( ");
        int from = random.nextInt(atoms);
        int number = 1 + random.nextInt(atoms);
        for (int i = 0; i < number; i++) {
            all.append((char) ('a' + (from + i) % atoms)).append(' ');
        }
        return all.append(chance(2) ? "a)" : ")").toString();
    }

    private String saying(int depth) {
        StringBuilder all = new StringBuilder(part(depth));
        int more = chance(50) ? 0 : random.nextInt(3);
        for (int i = 0; i < more; i++) {
            all.append(chance(50) ? " and " : "\n or ").append(part(depth));
        }
        return all.toString();
    }

    private int depth() {
        return chance(5) ? 7 : random.nextInt(3);
    }

    private String line() {
        return (chance(mayPercent) ? "may " : "must ") + saying(depth()) + (chance(50) ? ";" : " ; ");
    }

    private String lineNumber() {
        return String.valueOf(chance(3) ? upTo(1200) : random.nextInt(Math.max(1, oracle.law.size())));
    }

    private String wish() {
        return switch (random.nextInt(6)) {
            case 0 -> "strike " + lineNumber() + ";";
            case 1 -> "keep " + lineNumber() + ";";
            case 2, 3 -> "change " + lineNumber() + "to " + line();
            default -> "add " + line();
        };
    }

    /** Breaks a text at one place. */
    private String broken(String text) {
        if (text.isEmpty()) {
            return "must";
        }
        int at = random.nextInt(text.length());
        String[] odd = {"", " ", "must ", "may ", ";", "(", ")", " 5 ", " 1234 ", "=", "abcdefghij", " not ", " h ", "A",
            " a ", " or ", " and ", " of ", " most ", "\n", "not not not not not not ", "((((((", " true", "0"};
        String put = odd[random.nextInt(odd.length)];
        return switch (random.nextInt(3)) {
            case 0 -> text.substring(0, at) + put + text.substring(at);
            case 1 -> text.substring(0, at) + put + text.substring(at + 1);
            default -> text.substring(0, at) + put;
        };
    }

    private void tell(String text) {
        String all = chance(wildPercent) ? broken(text) : text;
        for (int i = 0; i < all.length(); i += 24) {
            long[] parts = new long[3];
            for (int j = 0; j < 24; j++) {
                int sign = i + j < all.length() ? all.charAt(i + j) : chance(50) ? 0 : 200;
                parts[j / 8] |= (long) sign << 56 - 8 * (j % 8);
            }
            String cut = all.substring(i, Math.min(all.length(), i + 24)).replace("\n", "\\n");
            due("feed \"" + cut + "\"", room.feed(parts[0], parts[1], parts[2]), oracle.feed(parts[0], parts[1], parts[2]));
        }
    }

    private void readLaw() {
        StringBuilder all = new StringBuilder();
        int number = chance(10) ? random.nextInt(14) : random.nextInt(6);
        for (int i = 0; i < number; i++) {
            all.append(line());
        }
        tell(all.toString());
        due("law()", room.law(), oracle.law());
    }

    // ---- calls

    private void change() {
        int kind = random.nextInt(100);
        if (kind < 2) {
            readLaw();
        } else if (kind < 50) {
            tell(wish());
            int person = oneOf(chance(50) ? 100 : 4);
            due("wish(" + person + ")", room.wish(person), oracle.wish(person));
        } else if (kind < 56) {
            int n = chance(10) ? oneOf(1001) : upTo(3);
            due("days(" + n + ")", room.days(n), oracle.days(n));
        } else if (kind < 62) {
            int day = chance(60) ? oracle.now : oneOf(oracle.now + 1);
            due("view(" + day + ")", room.view(day), oracle.view(day));
        } else if (kind < 65) {
            int wish = oneOf(oracle.wishes.size());
            due("withdraw(" + wish + ")", room.withdraw(wish), oracle.withdraw(wish));
        } else if (kind < 70) {
            int person = oneOf(chance(50) ? 100 : 4);
            int house = oneOf(7);
            due("house(" + person + ", " + house + ")", room.house(person, house), oracle.house(person, house));
        } else if (kind < 77) {
            tell(saying(depth()) + ";");
            int wish = oneOf(oracle.wishes.size());
            due("ground(" + wish + ")", room.ground(wish), oracle.ground(wish));
        } else if (kind < 91) {
            cast(oneOf(7), oneOf(6), chance(75));
        } else if (kind < 92) {
            poll();
        } else {
            int world = oneOf(chance(30) ? 128 : 1 << atoms);
            due("world(" + world + ")", room.world(world), oracle.world(world));
        }
    }

    private void cast(int house, int group, boolean yes) {
        due("vote(" + house + ", " + group + ", " + yes + ")", room.vote(house, group, yes),
            oracle.vote(house, group, yes));
    }

    /** Many votes at once: single ones seldom make a majority. */
    private void poll() {
        for (int group = 0; group < 6; group++) {
            int houses = random.nextInt(8);
            for (int house = 7 - houses; house < 7; house++) {
                cast(house, group, chance(85));
            }
        }
    }

    private void ask() {
        if (chance(slowPercent)) {
            askDear();
        } else {
            askCheap();
        }
    }

    private int counted(int what) {
        try {
            return room.count(what);
        } catch (NoSuchElementException e) {
            return THROWN;
        }
    }

    private int countedByOracle(int what) {
        try {
            return oracle.count(what);
        } catch (NoSuchElementException e) {
            return THROWN;
        }
    }

    private void askCheap() {
        int what = oneOf(6);
        int group = oneOf(oracle.count(4));
        int other = oneOf(oracle.count(4));
        int wish = oneOf(oracle.wishes.size());
        switch (random.nextInt(11)) {
            case 0 -> {
                int world = oneOf(128);
                due("allowed(" + world + ")", room.allowed(world), oracle.allowed(world));
            }
            case 1 -> due("rule(" + what + ")", room.rule(what), oracle.rule(what));
            case 2 -> {
                int line = oneOf(oracle.law.size());
                due("line(" + line + ", " + what + ")", room.line(line, what), oracle.line(line, what));
            }
            case 3 -> due("look(" + wish + ", " + what + ")", room.look(wish, what), oracle.look(wish, what));
            case 4 -> {
                int ground = oneOf(oracle.grounds.size());
                due("held(" + ground + ", " + what + ")", room.held(ground, what), oracle.held(ground, what));
            }
            case 5, 6 -> due("group(" + group + ", " + what + ")", room.group(group, what), oracle.group(group, what));
            case 7 -> due("clash(" + group + ", " + other + ")", room.clash(group, other), oracle.clash(group, other));
            case 8 -> {
                int set = chance(5) ? random.nextInt() : random.nextInt(1 << oracle.count(4));
                due("together(" + set + ")", room.together(set), oracle.together(set));
            }
            case 9 -> {
                int number = oneOf(10);
                due("count(" + number + ")", counted(number), countedByOracle(number));
            }
            default -> {
                int line = oneOf(oracle.law.size());
                due("idle(" + line + ")", room.idle(line), oracle.idle(line));
            }
        }
    }

    private void askDear() {
        int what = oneOf(4);
        int weight = oneOf(4);
        int house = oneOf(7);
        switch (random.nextInt(12)) {
            case 0 -> {
                int n = 1 + oneOf(3);
                due("least(" + n + ")", room.least(n), oracle.least(n));
            }
            case 1 -> {
                int n = 1 + oneOf(3);
                int i = oneOf(Math.max(1, oracle.least(n)));
                due("leastSet(" + n + ", " + i + ")", room.leastSet(n, i), oracle.leastSet(n, i));
            }
            case 2, 3 -> due("draft(" + weight + ", " + what + ")", room.draft(weight, what), oracle.draft(weight, what));
            case 4, 5 -> {
                int wish = oneOf(oracle.wishes.size());
                int which = oneOf(2);
                due("why(" + wish + ", " + weight + ", " + which + ")", room.why(wish, weight, which),
                    oracle.why(wish, weight, which));
            }
            case 6 -> due("votes(" + what + ")", room.votes(what), oracle.votes(what));
            case 7 -> due("favour(" + house + ", " + what + ")", room.favour(house, what), oracle.favour(house, what));
            case 8 -> due("gain(" + house + ")", room.gain(house), oracle.gain(house));
            case 9 -> {
                int which = oneOf(2);
                due("cases(" + weight + ", " + which + ")", room.cases(weight, which), oracle.cases(weight, which));
            }
            case 10 -> {
                int number = oneOf(oracle.cases.size());
                due("blamed(" + number + ", " + weight + ")", room.blamed(number, weight), oracle.blamed(number, weight));
            }
            default -> {
                int b = oneOf(4);
                due("beside(" + weight + ", " + b + ")", room.beside(weight, b), oracle.beside(weight, b));
                int which = oneOf(2);
                due("fewest(" + which + ")", room.fewest(which), oracle.fewest(which));
            }
        }
    }
}
