import java.util.ArrayList;
import java.util.Arrays;
import java.util.BitSet;
import java.util.HashSet;
import java.util.List;
import java.util.NoSuchElementException;
import java.util.Set;

/**
 * The document told a second time, as slowly and plainly as can be: texts are cut into tokens at once, laws are lists
 * of lines, sayings are sets of worlds, and every set and every order is looked at. OracleTest holds the class to it.
 */
final class Oracle {
    record Token(String text, int place) { }

    record Line(boolean may, BitSet worlds) { }

    static final class Wish {
        String verb;
        int target = -1;
        Line line;
        int person;
        int told;
        Integer gone;
    }

    record Ground(int wish, BitSet worlds) { }

    record Case(int world, int told) { }

    static final class Fault extends Exception {
        private static final long serialVersionUID = 1L;
        final int number;

        Fault(int number) {
            this.number = number;
        }
    }

    int now = 0;
    Integer fixedView = null;
    String tape = "";
    List<Line> law = new ArrayList<>();
    List<Wish> wishes = new ArrayList<>();
    List<Ground> grounds = new ArrayList<>();
    List<Case> cases = new ArrayList<>();
    int[] houses = new int[100];
    boolean[][] yes = new boolean[7][6];

    // ---- days and letters

    int days(int n) {
        if (n < 0 || n > 1000 || now + n > 9999) {
            return -1;
        }
        now += n;
        return now;
    }

    int seen() {
        return fixedView == null ? now : fixedView;
    }

    boolean view(int day) {
        if (day < 0 || day > now) {
            return false;
        }
        fixedView = day == now ? null : day;
        return true;
    }

    int feed(long a, long b, long c) {
        for (long part : new long[] {a, b, c}) {
            for (int i = 7; i >= 0; i--) {
                char sign = (char) (part >> 8 * i & 0xFF);
                if ((sign == 10 || sign >= 32 && sign < 127) && tape.length() < 1000) {
                    tape += sign;
                }
            }
        }
        return tape.length();
    }

    private List<Token> tokens;
    private int at;

    private void cut() {
        tokens = new ArrayList<>();
        int i = 0;
        while (i < tape.length()) {
            char c = tape.charAt(i);
            if (c == ' ' || c == '\n') {
                i++;
                continue;
            }
            String rest = tape.substring(i);
            String token = String.valueOf(c);
            if (c >= 'a' && c <= 'z') {
                token = rest.split("[^a-z]", 2)[0];
            } else if (c >= '0' && c <= '9') {
                token = rest.split("[^0-9]", 2)[0];
            }
            boolean fine = token.matches("[a-z]{1,8}|[0-9]{1,3}|[();]");
            tokens.add(new Token(fine ? token : "?", i));
            i += token.length();
        }
        tokens.add(new Token("", tape.length()));
        tape = "";
        at = 0;
    }

    private String head() {
        return tokens.get(at).text();
    }

    private Fault fault(int kind) {
        return new Fault(kind + 16 * tokens.get(at).place());
    }

    private void want(String text) throws Fault {
        if (!head().equals(text)) {
            throw fault(1);
        }
        at++;
    }

    private int number(int limit) throws Fault {
        if (!head().matches("[0-9]+")) {
            throw fault(1);
        }
        int n = Integer.parseInt(head());
        if (n >= limit) {
            throw fault(4);
        }
        at++;
        return n;
    }

    private BitSet saying(int within) throws Fault {
        BitSet all = term(within);
        while (head().equals("or")) {
            at++;
            all.or(term(within));
        }
        return all;
    }

    private BitSet term(int within) throws Fault {
        BitSet all = part(within);
        while (head().equals("and")) {
            at++;
            all.and(part(within));
        }
        return all;
    }

    private BitSet part(int within) throws Fault {
        String word = head();
        if (!word.matches("[a-g]|true|false|not|most|least|\\(")) {
            throw fault(1);
        }
        if (within == 6) {
            throw fault(5);
        }
        at++;
        BitSet worlds = new BitSet();
        switch (word) {
            case "true" -> worlds.or(everyWorld());
            case "false" -> { }
            case "not" -> {
                worlds.or(everyWorld());
                worlds.andNot(part(within + 1));
            }
            case "(" -> {
                worlds.or(saying(within + 1));
                want(")");
            }
            case "most", "least" -> {
                int n = number(8);
                want("of");
                want("(");
                Set<String> atoms = new HashSet<>();
                do {
                    if (!head().matches("[a-g]")) {
                        throw fault(1);
                    }
                    if (!atoms.add(head())) {
                        throw fault(3);
                    }
                    at++;
                } while (!head().equals(")"));
                at++;
                everyWorld().stream().forEach(world -> {
                    long so = atoms.stream().filter(x -> isSo(x, world)).count();
                    worlds.set(world, word.equals("most") ? so <= n : so >= n);
                });
            }
            default -> everyWorld().stream().filter(world -> isSo(word, world)).forEach(worlds::set);
        }
        return worlds;
    }

    private static boolean isSo(String atom, int world) {
        return (world >> atom.charAt(0) - 'a') % 2 == 1;
    }

    private static BitSet everyWorld() {
        BitSet worlds = new BitSet();
        worlds.set(0, 128);
        return worlds;
    }

    private Line readLine() throws Fault {
        boolean may = head().equals("may");
        want(may ? "may" : "must");
        BitSet worlds = saying(0);
        want(";");
        return new Line(may, worlds);
    }

    int law() {
        try {
            cut();
            List<Line> read = new ArrayList<>();
            while (!head().isEmpty()) {
                if (read.size() == 12 && head().matches("must|may")) {
                    throw fault(5);
                }
                read.add(readLine());
            }
            law = read;
        } catch (Fault f) {
            return f.number;
        }
        wishes.clear();
        grounds.clear();
        yes = new boolean[7][6];
        return 0;
    }

    int wish(int person) {
        if (person < 0 || person > 99 || wishes.size() == 30) {
            tape = "";
            return -1;
        }
        try {
            cut();
            Wish wish = new Wish();
            wish.verb = head();
            if (!wish.verb.matches("strike|keep|change|add")) {
                throw fault(1);
            }
            at++;
            if (!wish.verb.equals("add")) {
                wish.target = number(law.size());
            }
            switch (wish.verb) {
                case "change" -> {
                    want("to");
                    wish.line = readLine();
                }
                case "add" -> wish.line = readLine();
                default -> want(";");
            }
            want("");
            wish.person = person;
            wish.told = now;
            wishes.add(wish);
            return 0;
        } catch (Fault f) {
            return f.number;
        }
    }

    boolean withdraw(int wish) {
        if (wish < 0 || wish >= wishes.size() || wishes.get(wish).gone != null) {
            return false;
        }
        wishes.get(wish).gone = now;
        return true;
    }

    boolean house(int person, int house) {
        if (person < 0 || person > 99 || house < 0 || house > 6) {
            return false;
        }
        houses[person] = house;
        return true;
    }

    // ---- laws

    private static BitSet allowedBy(List<Line> lines) {
        BitSet worlds = everyWorld();
        for (Line line : lines) {
            if (!line.may()) {
                worlds.and(line.worlds());
            }
        }
        return worlds;
    }

    private static Set<BitSet> mays(List<Line> lines) {
        Set<BitSet> sets = new HashSet<>();
        for (Line line : lines) {
            if (line.may()) {
                sets.add(line.worlds());
            }
        }
        return sets;
    }

    private static int vain(List<Line> lines) {
        for (int i = 0; i < lines.size(); i++) {
            if (lines.get(i).may() && !allowedBy(lines).intersects(lines.get(i).worlds())) {
                return i;
            }
        }
        return -1;
    }

    private static int quarrel(List<Line> lines) {
        if (allowedBy(lines).isEmpty()) {
            return 2;
        }
        return vain(lines) >= 0 ? 3 : 0;
    }

    private static boolean meanSame(List<Line> a, List<Line> b) {
        return allowedBy(a).equals(allowedBy(b)) && mays(a).equals(mays(b));
    }

    private List<Line> by(List<Wish> some) {
        Line[] row = law.toArray(new Line[0]);
        List<Line> added = new ArrayList<>();
        for (Wish wish : some) {
            switch (wish.verb) {
                case "strike" -> row[wish.target] = null;
                case "change" -> row[wish.target] = wish.line;
                case "add" -> added.add(wish.line);
                default -> { }
            }
        }
        List<Line> result = new ArrayList<>();
        for (Line line : row) {
            if (line != null) {
                result.add(line);
            }
        }
        result.addAll(added);
        return result;
    }

    int allowed(int world) {
        if (world < 0 || world > 127) {
            return -1;
        }
        return allowedBy(law).get(world) ? 1 : 0;
    }

    int rule(int what) {
        return switch (what) {
            case 0 -> law.size();
            case 1 -> allowedBy(law).cardinality();
            case 2 -> quarrel(law);
            case 3 -> quarrel(law) == 3 ? vain(law) : -1;
            default -> -1;
        };
    }

    int line(int line, int what) {
        if (line < 0 || line >= law.size() || what < 0 || what > 1) {
            return -1;
        }
        return what == 0 ? (law.get(line).may() ? 1 : 0) : law.get(line).worlds().cardinality();
    }

    // ---- groups

    private boolean inView(Wish wish) {
        return wish.told <= seen() && (wish.gone == null || wish.gone > seen());
    }

    private boolean same(Wish a, Wish b) {
        if (a.verb.equals("keep") || b.verb.equals("keep")) {
            return a.verb.equals(b.verb) && a.target == b.target;
        }
        return meanSame(by(List.of(a)), by(List.of(b)));
    }

    private List<List<Integer>> groups() {
        List<List<Integer>> groups = new ArrayList<>();
        for (int i = 0; i < wishes.size(); i++) {
            Wish wish = wishes.get(i);
            if (!inView(wish)) {
                continue;
            }
            List<Integer> home = null;
            for (List<Integer> group : groups) {
                if (same(wishes.get(group.get(0)), wish)) {
                    home = group;
                }
            }
            if (home == null) {
                home = new ArrayList<>();
                groups.add(home);
            }
            home.add(i);
        }
        return groups;
    }

    private List<Wish> firsts(List<List<Integer>> groups, int set) {
        List<Wish> some = new ArrayList<>();
        for (int g = 0; g < groups.size(); g++) {
            if ((set >> g & 1) == 1) {
                some.add(wishes.get(groups.get(g).get(0)));
            }
        }
        return some;
    }

    private static boolean touch(Wish a, Wish b) {
        if (a.target < 0 || a.target != b.target) {
            return false;
        }
        if (!a.verb.equals(b.verb)) {
            return true;
        }
        return a.verb.equals("change") && !a.line.equals(b.line);
    }

    private boolean goes(List<List<Integer>> groups, int set) {
        List<Wish> some = firsts(groups, set);
        for (int i = 0; i < some.size(); i++) {
            for (int j = 0; j < i; j++) {
                if (touch(some.get(i), some.get(j))) {
                    return false;
                }
            }
        }
        return quarrel(by(some)) == 0;
    }

    private int clashOf(List<List<Integer>> groups, int a, int b) {
        List<Wish> both = firsts(groups, 1 << a | 1 << b);
        return touch(both.get(0), both.get(1)) ? 1 : quarrel(by(both));
    }

    int look(int wish, int what) {
        if (wish < 0 || wish >= wishes.size()) {
            return -1;
        }
        Wish w = wishes.get(wish);
        switch (what) {
            case 0:
                List<List<Integer>> groups = groups();
                for (int g = 0; g < groups.size(); g++) {
                    if (groups.get(g).contains(wish)) {
                        return g;
                    }
                }
                return -1;
            case 1:
                return List.of("strike", "keep", "change", "add").indexOf(w.verb);
            case 2:
                return w.target;
            case 3:
                return w.person;
            default:
                return -1;
        }
    }

    int ground(int wish) {
        if (wish < 0 || wish >= wishes.size() || grounds.size() == 20) {
            tape = "";
            return -1;
        }
        try {
            cut();
            BitSet worlds = saying(0);
            want(";");
            want("");
            grounds.add(new Ground(wish, worlds));
            return 0;
        } catch (Fault f) {
            return f.number;
        }
    }

    private int against(Ground ground) {
        for (int i = 0; i < cases.size(); i++) {
            if (cases.get(i).told() <= seen() && !ground.worlds().get(cases.get(i).world())) {
                return i;
            }
        }
        return -1;
    }

    private boolean isHeld(Ground ground) {
        return against(ground) < 0 && count(6) > 0;
    }

    int held(int ground, int what) {
        if (ground < 0 || ground >= grounds.size()) {
            return -1;
        }
        Ground g = grounds.get(ground);
        return switch (what) {
            case 0 -> isHeld(g) ? 1 : 0;
            case 1 -> against(g);
            case 2 -> g.wish();
            default -> -1;
        };
    }

    private int weigh(List<List<Integer>> groups, int group, int weight) {
        List<Integer> members = groups.get(group);
        switch (weight) {
            case 0:
                return (int) members.stream().map(w -> wishes.get(w).person).distinct().count();
            case 1:
                return (int) members.stream().map(w -> houses[wishes.get(w).person]).distinct().count();
            case 2:
                BitSet otherwise = allowedBy(law);
                otherwise.xor(allowedBy(by(firsts(groups, 1 << group))));
                return otherwise.cardinality();
            default:
                return (int) grounds.stream().filter(g -> members.contains(g.wish()) && isHeld(g)).count();
        }
    }

    int group(int group, int what) {
        List<List<Integer>> groups = groups();
        if (group < 0 || group >= groups.size()) {
            return -1;
        }
        return switch (what) {
            case 0, 1, 2, 3 -> weigh(groups, group, what);
            case 4 -> groups.get(group).get(0);
            case 5 -> groups.get(group).size();
            default -> -1;
        };
    }

    int clash(int a, int b) {
        List<List<Integer>> groups = groups();
        if (a < 0 || b < 0 || a >= groups.size() || b >= groups.size() || a == b) {
            return -1;
        }
        return clashOf(groups, a, b);
    }

    int together(int set) {
        List<List<Integer>> groups = groups();
        if (set < 0 || set >= 1L << groups.size()) {
            return -1;
        }
        return goes(groups, set) ? 1 : 0;
    }

    private List<Integer> leastSets(int n) {
        List<List<Integer>> groups = groups();
        List<Integer> found = new ArrayList<>();
        if (n < 1 || n > 3) {
            return found;
        }
        choose(groups, n, 0, 0, found);
        return found;
    }

    private void choose(List<List<Integer>> groups, int left, int from, int set, List<Integer> found) {
        if (left == 0) {
            boolean least = !goes(groups, set);
            for (int less = set; less != 0 && least;) {
                less = less - 1 & set;
                least = goes(groups, less);
            }
            if (least) {
                found.add(set);
            }
            return;
        }
        for (int g = from; g < groups.size(); g++) {
            choose(groups, left - 1, g + 1, set | 1 << g, found);
        }
    }

    int least(int n) {
        return n < 1 || n > 3 ? -1 : leastSets(n).size();
    }

    int leastSet(int n, int i) {
        List<Integer> sets = leastSets(n);
        return i < 0 || i >= sets.size() ? -1 : sets.get(i);
    }

    // ---- drafts

    private int draftBy(List<List<Integer>> groups, int weight) {
        if (weight < 0 || weight > 3) {
            return -1;
        }
        int n = Math.min(12, groups.size());
        int[] weights = new int[n];
        for (int g = 0; g < n; g++) {
            weights[g] = weigh(groups, g, weight);
        }
        List<Integer> sets = new ArrayList<>();
        for (int set = 0; set < 1 << n; set++) {
            sets.add(set);
        }
        sets.sort((x, y) -> {
            if (sum(weights, x) != sum(weights, y)) {
                return sum(weights, y) - sum(weights, x);
            }
            int fewer = Integer.bitCount(x) - Integer.bitCount(y);
            return fewer != 0 ? fewer : x - y;
        });
        for (int set : sets) {
            if (goes(groups, set)) {
                return set;
            }
        }
        return -1;
    }

    private static int sum(int[] weights, int set) {
        int sum = 0;
        for (int g = 0; g < weights.length; g++) {
            sum += (set >> g & 1) * weights[g];
        }
        return sum;
    }

    int draft(int weight, int what) {
        List<List<Integer>> groups = groups();
        int set = draftBy(groups, weight);
        if (set < 0) {
            return -1;
        }
        switch (what) {
            case 0:
                return set;
            case 1:
                int sum = 0;
                for (int g = 0; g < Math.min(12, groups.size()); g++) {
                    sum += (set >> g & 1) * weigh(groups, g, weight);
                }
                return sum;
            case 2:
                return by(firsts(groups, set)).size();
            case 3:
                return allowedBy(by(firsts(groups, set))).cardinality();
            default:
                return -1;
        }
    }

    int why(int wish, int weight, int what) {
        List<List<Integer>> groups = groups();
        int set = draftBy(groups, weight);
        int group = look(wish, 0);
        if (set < 0 || group < 0 || what < 0 || what > 1) {
            return -1;
        }
        if ((set >> group & 1) == 1) {
            return what == 0 ? 0 : -1;
        }
        if (!goes(groups, 1 << group)) {
            return what == 0 ? 1 : -1;
        }
        for (int g = 0; g < groups.size(); g++) {
            if ((set >> g & 1) == 1 && clashOf(groups, Math.min(g, group), Math.max(g, group)) != 0) {
                return what == 0 ? 2 : g;
            }
        }
        if (what == 1) {
            return -1;
        }
        return goes(groups, set | 1 << group) ? 4 : 3;
    }

    // ---- votes

    boolean vote(int house, int group, boolean isYes) {
        if (house < 0 || house > 6 || group < 0 || group > 5) {
            return false;
        }
        yes[house][group] = isYes;
        return true;
    }

    private int result(List<List<Integer>> groups, List<Integer> order) {
        int taken = 0;
        for (int g : order) {
            int votes = 0;
            for (int h = 0; h < 7; h++) {
                votes += yes[h][g] ? 1 : -1;
            }
            if (votes > 0 && goes(groups, taken | 1 << g)) {
                taken |= 1 << g;
            }
        }
        return taken;
    }

    private static final List<List<List<Integer>>> ORDERS = List.of(
        ordersOf(0), ordersOf(1), ordersOf(2), ordersOf(3), ordersOf(4), ordersOf(5), ordersOf(6));

    private static List<List<Integer>> orders(int n) {
        return ORDERS.get(n);
    }

    private static List<List<Integer>> ordersOf(int n) {
        List<List<Integer>> all = new ArrayList<>();
        List<Integer> digits = new ArrayList<>();
        for (int number = 0; number < 1 << 3 * n; number++) {
            digits.clear();
            for (int i = n - 1; i >= 0; i--) {
                digits.add(number >> 3 * i & 7);
            }
            if (new HashSet<>(digits).size() == n && digits.stream().allMatch(d -> d < n)) {
                all.add(new ArrayList<>(digits));
            }
        }
        return all;
    }

    private int liked(int house, int taken) {
        int number = 0;
        for (int g = 0; g < 6; g++) {
            number += yes[house][g] ? taken >> g & 1 : 0;
        }
        return number;
    }

    int votes(int what) {
        List<List<Integer>> groups = groups();
        int n = Math.min(6, groups.size());
        if (what < 0 || what > 3) {
            return -1;
        }
        int sure = -1;
        int maybe = 0;
        Set<Integer> results = new HashSet<>();
        List<Integer> inOrder = new ArrayList<>();
        for (List<Integer> order : orders(n)) {
            int taken = result(groups, order);
            sure &= taken;
            maybe |= taken;
            results.add(taken);
            inOrder.add(taken);
        }
        return List.of(sure, maybe, results.size(), inOrder.get(0)).get(what);
    }

    int favour(int house, int what) {
        if (house < 0 || house > 6 || what < 0 || what > 2) {
            return -1;
        }
        List<List<Integer>> groups = groups();
        int most = -1;
        int fewest = 99;
        int first = 0;
        for (List<Integer> order : orders(Math.min(6, groups.size()))) {
            int number = liked(house, result(groups, order));
            if (number > most) {
                most = number;
                first = 0;
                for (int g : order) {
                    first = first * 8 + g;
                }
            }
            fewest = Math.min(fewest, number);
        }
        return List.of(most, fewest, first).get(what);
    }

    int gain(int house) {
        if (house < 0 || house > 6) {
            return -1;
        }
        List<List<Integer>> groups = groups();
        int n = Math.min(6, groups.size());
        List<Integer> order = orders(n).get(0);
        int before = liked(house, result(groups, order));
        for (int g = 0; g < n; g++) {
            yes[house][g] = !yes[house][g];
            int taken = result(groups, order);
            yes[house][g] = !yes[house][g];
            if (liked(house, taken) > before) {
                return g;
            }
        }
        return -1;
    }

    // ---- cases and lines

    int world(int world) {
        if (world < 0 || world > 127 || cases.size() == 40) {
            return -1;
        }
        cases.add(new Case(world, now));
        return cases.size() - 1;
    }

    int cases(int weight, int what) {
        List<List<Integer>> groups = groups();
        int set = draftBy(groups, weight);
        if (set < 0 || what < 0 || what > 1) {
            return -1;
        }
        BitSet before = allowedBy(law);
        BitSet after = allowedBy(by(firsts(groups, set)));
        return (int) cases.stream().filter(c -> c.told() <= seen()).map(Case::world)
            .filter(w -> what == 0 ? before.get(w) && !after.get(w) : !before.get(w) && after.get(w))
            .count();
    }

    int blamed(int number, int weight) {
        List<List<Integer>> groups = groups();
        int set = draftBy(groups, weight);
        if (set < 0 || number < 0 || number >= cases.size() || cases.get(number).told() > seen()) {
            return -1;
        }
        int world = cases.get(number).world();
        boolean before = allowedBy(law).get(world);
        if (allowedBy(by(firsts(groups, set))).get(world) == before) {
            return -1;
        }
        for (int g = 0; g < groups.size(); g++) {
            if ((set >> g & 1) == 1
                    && allowedBy(by(firsts(groups, set - (1 << g)))).get(world) == before) {
                return g;
            }
        }
        return -1;
    }

    private List<Line> some(int set) {
        List<Line> lines = new ArrayList<>();
        for (int i = 0; i < law.size(); i++) {
            if ((set >> i & 1) == 1) {
                lines.add(law.get(i));
            }
        }
        return lines;
    }

    int idle(int line) {
        if (line < 0 || line >= law.size()) {
            return -1;
        }
        return meanSame(some(~(1 << line)), law) ? 1 : 0;
    }

    int fewest(int what) {
        if (what < 0 || what > 1) {
            return -1;
        }
        for (int n = 0; n <= law.size(); n++) {
            for (int set = 0; set < 1 << law.size(); set++) {
                if (Integer.bitCount(set) == n && meanSame(some(set), law)) {
                    return what == 0 ? n : set;
                }
            }
        }
        throw new IllegalStateException("the whole law means the same as itself");
    }

    int beside(int a, int b) {
        List<List<Integer>> groups = groups();
        int one = draftBy(groups, a);
        int other = draftBy(groups, b);
        return one < 0 || other < 0 ? -1 : one & ~other;
    }

    int count(int what) {
        return switch (what) {
            case 0 -> now;
            case 1 -> seen();
            case 2 -> wishes.size();
            case 3 -> (int) wishes.stream().filter(this::inView).count();
            case 4 -> groups().size();
            case 5 -> cases.size();
            case 6 -> (int) cases.stream().filter(c -> c.told() <= seen()).count();
            case 7 -> tape.length();
            case 8 -> (int) wishes.stream().filter(w -> w.gone != null).count();
            case 9 -> grounds.size();
            default -> throw new NoSuchElementException(Arrays.toString(new int[] {what}));
        };
    }
}
