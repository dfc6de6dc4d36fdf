import java.util.NoSuchElementException;

/** A room in which a law over small worlds is read, wishes on it are joined, weighed, drafted and voted on. */
public final class WishRoom {

    public static final int NONE = -1;

    private static final int LAST_DAY = 9999;
    private static final int MOST_DAYS = 1000;
    private static final int SIGN_LIMIT = 1000;
    private static final int LETTER_LIMIT = 8;
    private static final int DIGIT_LIMIT = 3;
    private static final int DEPTH_LIMIT = 6;
    private static final int WORLD_LIMIT = 128;
    private static final int HALF = 64;
    private static final int ATOM_LIMIT = 7;
    private static final int LINE_LIMIT = 12;
    private static final int PERSON_LIMIT = 100;
    private static final int HOUSE_LIMIT = 7;
    private static final int WISH_LIMIT = 30;
    private static final int GROUND_LIMIT = 20;
    private static final int CASE_LIMIT = 40;
    private static final int DRAFT_LIMIT = 12;
    private static final int VOTE_LIMIT = 6;
    private static final int MAJORITY = 4;

    private static final int STRIKE = 0;
    private static final int KEEP = 1;
    private static final int CHANGE = 2;
    private static final int ADD = 3;

    private static final int HANDS = 0;
    private static final int HOUSES = 1;
    private static final int REACH = 2;
    private static final int GROUNDS = 3;

    private static final int END = 0;
    private static final int BLANK = 1;
    private static final int WORD = 2;
    private static final int NUMBER = 3;
    private static final int OPEN = 4;
    private static final int CLOSE = 5;
    private static final int SEMICOLON = 6;
    private static final int STRAY = 7;

    private static final int MISPLACED = 1;
    private static final int TOLD_TWICE = 3;
    private static final int WRONG_NUMBER = 4;
    private static final int TOO_MANY = 5;

    private static final int TOUCHING = 1;
    private static final int NO_WORLD = 2;
    private static final int MAY_IN_VAIN = 3;

    /** The LAW's LINES come first, then one place for each WISH's LINE: so a law is a set of places, as bits. */
    private static final int PLACES = LINE_LIMIT + WISH_LIMIT;
    private static final long ALL_PLACES = (1L << PLACES) - 1;
    /** Sets of the GROUPS that a DRAFT looks at, 64 to a word of bits. */
    private static final int SET_WORDS = (1 << DRAFT_LIMIT) / HALF;

    /** The worlds 0 to 63 in which each atom is so; g is the half itself. */
    private static final long[] ATOM_LOW = {
        0xAAAAAAAAAAAAAAAAL, 0xCCCCCCCCCCCCCCCCL, 0xF0F0F0F0F0F0F0F0L,
        0xFF00FF00FF00FF00L, 0xFFFF0000FFFF0000L, 0xFFFFFFFF00000000L, 0L};
    private static final long[] ATOM_HIGH = {
        0xAAAAAAAAAAAAAAAAL, 0xCCCCCCCCCCCCCCCCL, 0xF0F0F0F0F0F0F0F0L,
        0xFF00FF00FF00FF00L, 0xFFFF0000FFFF0000L, 0xFFFFFFFF00000000L, -1L};

    private final Calendar calendar;
    private final Tape tape;
    private final Reader reader;
    private final Lines lines;
    private final Wishes wishes;
    private final Cases told;
    private final Groups groups;
    private final Weights weights;
    private final Drafts drafts;
    private final Ballots ballots;
    private final LeastSets leastSets;
    private final int[] houseOf;
    private boolean stale;

    public WishRoom() {
        calendar = new Calendar();
        tape = new Tape();
        reader = new Reader(tape);
        lines = new Lines();
        wishes = new Wishes();
        told = new Cases();
        houseOf = new int[PERSON_LIMIT];
        groups = new Groups(lines, wishes);
        weights = new Weights(groups, wishes, lines, told, houseOf);
        drafts = new Drafts(groups, weights);
        ballots = new Ballots(groups);
        leastSets = new LeastSets(groups);
        stale = false;
    }

    public int days(int n) {
        int day = calendar.pass(n);
        stale = true;
        return day;
    }

    public boolean view(int day) {
        boolean turned = calendar.turnTo(day);
        stale = true;
        return turned;
    }

    public int feed(long a, long b, long c) {
        tape.putEight(a);
        tape.putEight(b);
        tape.putEight(c);
        return tape.size;
    }

    public int law() {
        int fault = reader.readLaw();
        tape.clear();
        if (fault == 0) {
            lines.enact(reader);
            wishes.size = 0;
            told.grounds = 0;
            ballots.forget();
            stale = true;
        }
        return fault;
    }

    public int wish(int person) {
        if (person < 0 || person >= PERSON_LIMIT || wishes.size >= WISH_LIMIT) {
            tape.clear();
            return NONE;
        }
        int fault = reader.readWish(lines.size);
        tape.clear();
        if (fault == 0) {
            lines.put(LINE_LIMIT + wishes.size, reader.low, reader.high, reader.may);
            wishes.add(reader.verb, reader.target, person, calendar.now);
            stale = true;
        }
        return fault;
    }

    public boolean withdraw(int wish) {
        if (!isWish(wish) || wishes.gone[wish] != NONE) {
            return false;
        }
        wishes.gone[wish] = calendar.now;
        stale = true;
        return true;
    }

    public boolean house(int person, int house) {
        if (person < 0 || person >= PERSON_LIMIT || !isHouse(house)) {
            return false;
        }
        houseOf[person] = house;
        return true;
    }

    public int allowed(int world) {
        if (world < 0 || world >= WORLD_LIMIT) {
            return NONE;
        }
        return lines.allows(lines.whole(), world) ? 1 : 0;
    }

    public int rule(int what) {
        switch (what) {
            case 0:
                return lines.size;
            case 1:
                return lines.openWorlds(lines.whole());
            case 2:
                return lines.quarrel(lines.whole());
            case 3:
                return lines.quarrel(lines.whole()) == MAY_IN_VAIN ? lines.inVain(lines.whole()) : NONE;
            default:
                return NONE;
        }
    }

    public int line(int line, int what) {
        if (!isLine(line)) {
            return NONE;
        }
        switch (what) {
            case 0:
                return lines.isMay(line) ? 1 : 0;
            case 1:
                return Long.bitCount(lines.low[line]) + Long.bitCount(lines.high[line]);
            default:
                return NONE;
        }
    }

    public int look(int wish, int what) {
        if (!isWish(wish)) {
            return NONE;
        }
        switch (what) {
            case 0:
                settle();
                return groups.of[wish];
            case 1:
                return wishes.verb[wish];
            case 2:
                return wishes.target[wish];
            case 3:
                return wishes.person[wish];
            default:
                return NONE;
        }
    }

    public int ground(int wish) {
        if (!isWish(wish) || told.grounds >= GROUND_LIMIT) {
            tape.clear();
            return NONE;
        }
        int fault = reader.readGround();
        tape.clear();
        if (fault == 0) {
            told.addGround(wish, reader.low, reader.high);
        }
        return fault;
    }

    public int held(int ground, int what) {
        if (ground < 0 || ground >= told.grounds) {
            return NONE;
        }
        switch (what) {
            case 0:
                return told.holds(ground, calendar.seen()) ? 1 : 0;
            case 1:
                return told.firstAgainst(ground, calendar.seen());
            case 2:
                return told.groundWish[ground];
            default:
                return NONE;
        }
    }

    public int group(int group, int what) {
        settle();
        if (!isGroup(group)) {
            return NONE;
        }
        switch (what) {
            case HANDS:
            case HOUSES:
            case REACH:
            case GROUNDS:
                return weights.weigh(group, what, calendar.seen());
            case 4:
                return groups.first[group];
            case 5:
                return groups.wishesIn(group);
            default:
                return NONE;
        }
    }

    public int clash(int a, int b) {
        settle();
        if (!isGroup(a) || !isGroup(b) || a == b) {
            return NONE;
        }
        return groups.clashOf(a, b);
    }

    public int together(int set) {
        settle();
        if (set < 0 || set >> groups.size != 0) {
            return NONE;
        }
        return groups.goes(set) ? 1 : 0;
    }

    public int least(int n) {
        settle();
        if (n < 1 || n > 3) {
            return NONE;
        }
        leastSets.seek(n, NONE);
        return leastSets.found;
    }

    public int leastSet(int n, int i) {
        settle();
        if (n < 1 || n > 3 || i < 0) {
            return NONE;
        }
        leastSets.seek(n, i);
        return leastSets.answer;
    }

    public int draft(int weight, int what) {
        int set = draftBy(weight);
        if (set == NONE) {
            return NONE;
        }
        switch (what) {
            case 0:
                return set;
            case 1:
                return drafts.bestSum;
            case 2:
                return Long.bitCount(groups.lawBy(set));
            case 3:
                return lines.openWorlds(groups.lawBy(set));
            default:
                return NONE;
        }
    }

    public int why(int wish, int weight, int what) {
        int set = draftBy(weight);
        if (set == NONE || !isWish(wish) || groups.of[wish] == NONE || what < 0 || what > 1) {
            return NONE;
        }
        int group = groups.of[wish];
        int rival = rivalIn(set, group);
        int reason = reasonAgainst(set, group, rival);
        if (what == 0) {
            return reason;
        }
        return reason == 2 ? rival : NONE;
    }

    public boolean vote(int house, int group, boolean yes) {
        if (!isHouse(house) || group < 0 || group >= VOTE_LIMIT) {
            return false;
        }
        ballots.cast(house, group, yes);
        return true;
    }

    public int votes(int what) {
        settle();
        if (what == 3) {
            return ballots.inPlainOrder(NONE, 0);
        }
        if (what < 0 || what > 3) {
            return NONE;
        }
        ballots.tryOrders(0);
        switch (what) {
            case 0:
                return ballots.sure;
            case 1:
                return ballots.maybe;
            default:
                return Long.bitCount(ballots.results);
        }
    }

    public int favour(int house, int what) {
        settle();
        if (!isHouse(house)) {
            return NONE;
        }
        ballots.tryOrders(ballots.yes[house]);
        switch (what) {
            case 0:
                return ballots.most;
            case 1:
                return ballots.fewestTaken;
            case 2:
                return ballots.bestOrder;
            default:
                return NONE;
        }
    }

    public int gain(int house) {
        settle();
        return isHouse(house) ? ballots.firstGain(house) : NONE;
    }

    public int world(int world) {
        if (world < 0 || world >= WORLD_LIMIT || told.size >= CASE_LIMIT) {
            return NONE;
        }
        return told.addCase(world, calendar.now);
    }

    public int cases(int weight, int what) {
        int set = draftBy(weight);
        if (set == NONE || what < 0 || what > 1) {
            return NONE;
        }
        long before = what == 0 ? lines.whole() : groups.lawBy(set);
        long after = what == 0 ? groups.lawBy(set) : lines.whole();
        return casesLost(before, after);
    }

    public int blamed(int number, int weight) {
        int set = draftBy(weight);
        if (set == NONE || number < 0 || number >= told.size || told.day[number] > calendar.seen()) {
            return NONE;
        }
        int world = told.world[number];
        boolean before = lines.allows(lines.whole(), world);
        if (lines.allows(groups.lawBy(set), world) == before) {
            return NONE;
        }
        for (int group = 0; group < DRAFT_LIMIT; group++) {
            int others = set & ~(1 << group);
            if (others != set && lines.allows(groups.lawBy(others), world) == before) {
                return group;
            }
        }
        return NONE;
    }

    public int idle(int line) {
        if (!isLine(line)) {
            return NONE;
        }
        return lines.isIdle(line) ? 1 : 0;
    }

    public int fewest(int what) {
        if (what < 0 || what > 1) {
            return NONE;
        }
        int set = lines.fewestAlike();
        return what == 0 ? Integer.bitCount(set) : set;
    }

    public int beside(int a, int b) {
        int one = draftBy(a);
        int other = draftBy(b);
        if (one == NONE || other == NONE) {
            return NONE;
        }
        return one & ~other;
    }

    public int count(int what) throws NoSuchElementException {
        switch (what) {
            case 0:
                return calendar.now;
            case 1:
                return calendar.seen();
            case 2:
                return wishes.size;
            case 3:
                return wishes.seenOn(calendar.seen());
            case 4:
                settle();
                return groups.size;
            case 5:
                return told.size;
            case 6:
                return told.seenOn(calendar.seen());
            case 7:
                return tape.size;
            case 8:
                return wishes.withdrawn();
            case 9:
                return told.grounds;
            default:
                throw new NoSuchElementException();
        }
    }

    private boolean isLine(int line) {
        return line >= 0 && line < lines.size;
    }

    private boolean isWish(int wish) {
        return wish >= 0 && wish < wishes.size;
    }

    private boolean isGroup(int group) {
        return group >= 0 && group < groups.size;
    }

    private static boolean isHouse(int house) {
        return house >= 0 && house < HOUSE_LIMIT;
    }

    /** GROUPS are dear to find, so they are found again only when what they hang on may have changed. */
    private void settle() {
        if (stale) {
            groups.renew(calendar.seen());
            stale = false;
        }
    }

    private int draftBy(int weight) {
        if (weight < HANDS || weight > GROUNDS) {
            return NONE;
        }
        settle();
        return drafts.pick(weight, calendar.seen());
    }

    private int rivalIn(int set, int group) {
        for (int other = 0; other < DRAFT_LIMIT; other++) {
            if ((set >> other & 1) != 0 && other != group && groups.clashOf(group, other) != 0) {
                return other;
            }
        }
        return NONE;
    }

    private int reasonAgainst(int set, int group, int rival) {
        int alone = 1 << group;
        if ((set & alone) != 0) {
            return 0;
        }
        if (!groups.goes(alone)) {
            return 1;
        }
        if (rival != NONE) {
            return 2;
        }
        return groups.goes(set | alone) ? 4 : 3;
    }

    private int casesLost(long before, long after) {
        int lost = 0;
        for (int number = 0; number < told.size; number++) {
            int world = told.world[number];
            if (told.day[number] <= calendar.seen()
                    && lines.allows(before, world) && !lines.allows(after, world)) {
                lost++;
            }
        }
        return lost;
    }

    private static boolean isSo(long low, long high, int world) {
        long half = world < HALF ? low : high;
        return (half >> (world & (HALF - 1)) & 1L) != 0;
    }

    /** NOW and THE VIEW. */
    private static final class Calendar {
        int now;
        /** NONE while THE VIEW goes along with NOW. */
        private int fixed;

        Calendar() {
            now = 0;
            fixed = NONE;
        }

        int pass(int n) {
            if (n < 0 || n > MOST_DAYS || n > LAST_DAY - now) {
                return NONE;
            }
            now += n;
            return now;
        }

        boolean turnTo(int day) {
            if (day < 0 || day > now) {
                return false;
            }
            fixed = day == now ? NONE : day;
            return true;
        }

        int seen() {
            return fixed == NONE ? now : fixed;
        }
    }

    /** The TAPE, and the token on it that is looked at. */
    private static final class Tape {
        private final byte[] signs;
        private final byte[] sorts;
        int size;
        int kind;
        int start;
        private int stop;

        Tape() {
            signs = new byte[SIGN_LIMIT];
            sorts = new byte[SIGN_LIMIT];
            size = 0;
            kind = END;
            start = 0;
            stop = 0;
        }

        void putEight(long eight) {
            for (int shift = 56; shift >= 0; shift -= 8) {
                int sign = (int) (eight >>> shift) & 255;
                boolean fits = sign == 10 || sign >= 32 && sign <= 126;
                if (fits && size < SIGN_LIMIT) {
                    signs[size] = (byte) sign;
                    sorts[size] = (byte) sortOf(sign);
                    size++;
                }
            }
        }

        private static int sortOf(int sign) {
            if (sign >= 'a' && sign <= 'z') {
                return WORD;
            }
            if (sign >= '0' && sign <= '9') {
                return NUMBER;
            }
            switch (sign) {
                case 10:
                case ' ':
                    return BLANK;
                case '(':
                    return OPEN;
                case ')':
                    return CLOSE;
                case ';':
                    return SEMICOLON;
                default:
                    return STRAY;
            }
        }

        void clear() {
            size = 0;
        }

        void rewind() {
            stop = 0;
            step();
        }

        void step() {
            int place = stop;
            while (place < size && sorts[place] == BLANK) {
                place++;
            }
            start = place;
            kind = place < size ? sorts[place] : END;
            boolean runs = kind == WORD || kind == NUMBER;
            while (place < size && runs && sorts[place] == kind) {
                place++;
            }
            stop = runs ? place : Math.min(place + 1, size);
            int length = stop - start;
            if (kind == WORD && length > LETTER_LIMIT || kind == NUMBER && length > DIGIT_LIMIT) {
                kind = STRAY;
            }
        }

        boolean isWord(String text) {
            if (kind != WORD || stop - start != text.length()) {
                return false;
            }
            for (int i = 0; i < text.length() && start + i < size; i++) {
                if (signs[start + i] != text.charAt(i)) {
                    return false;
                }
            }
            return true;
        }

        int atom() {
            if (kind != WORD || stop - start != 1 || start >= size) {
                return NONE;
            }
            int atom = signs[start] - 'a';
            return atom >= 0 && atom < ATOM_LIMIT ? atom : NONE;
        }

        int value() {
            int value = 0;
            for (int place = start; place < stop && place < size; place++) {
                value = value * 10 + signs[place] - '0';
            }
            return value;
        }
    }

    /** Reads the TAPE; the SAYING read last stands in low and high, the worlds 0 to 63 and 64 to 127. */
    private static final class Reader {
        private final Tape tape;
        private int fault;
        long low;
        long high;
        boolean may;
        int verb;
        int target;
        final long[] lawLow;
        final long[] lawHigh;
        final boolean[] lawMay;
        int lawSize;

        Reader(Tape tape) {
            this.tape = tape;
            lawLow = new long[LINE_LIMIT];
            lawHigh = new long[LINE_LIMIT];
            lawMay = new boolean[LINE_LIMIT];
        }

        int readLaw() {
            begin();
            lawSize = 0;
            for (int i = 0; i < SIGN_LIMIT && fault == 0 && tape.kind != END; i++) {
                if (lawSize < LINE_LIMIT) {
                    readLine();
                    lawLow[lawSize] = low;
                    lawHigh[lawSize] = high;
                    lawMay[lawSize] = may;
                    lawSize++;
                } else {
                    fail(tape.isWord("must") || tape.isWord("may") ? TOO_MANY : MISPLACED);
                }
            }
            return fault;
        }

        int readWish(int lineCount) {
            begin();
            verb = verbHere();
            target = NONE;
            if (verb == NONE) {
                fail(MISPLACED);
                return fault;
            }
            tape.step();
            if (verb != ADD) {
                target = takeNumber(lineCount);
            }
            if (verb == CHANGE) {
                takeWord("to");
            }
            if (verb == CHANGE || verb == ADD) {
                readLine();
            } else {
                takeSign(SEMICOLON);
            }
            finish();
            return fault;
        }

        int readGround() {
            begin();
            saying(0);
            takeSign(SEMICOLON);
            finish();
            return fault;
        }

        private void begin() {
            fault = 0;
            low = 0L;
            high = 0L;
            may = false;
            tape.rewind();
        }

        private void finish() {
            if (tape.kind != END) {
                fail(MISPLACED);
            }
        }

        /** Only the first token that is wrong counts: whatever is read behind it is of no use. */
        private void fail(int kind) {
            if (fault == 0) {
                fault = kind + 16 * tape.start;
            }
        }

        private int verbHere() {
            if (tape.isWord("strike")) {
                return STRIKE;
            }
            if (tape.isWord("keep")) {
                return KEEP;
            }
            if (tape.isWord("change")) {
                return CHANGE;
            }
            return tape.isWord("add") ? ADD : NONE;
        }

        private void takeWord(String text) {
            if (fault == 0 && tape.isWord(text)) {
                tape.step();
            } else {
                fail(MISPLACED);
            }
        }

        private void takeSign(int kind) {
            if (fault == 0 && tape.kind == kind) {
                tape.step();
            } else {
                fail(MISPLACED);
            }
        }

        private int takeNumber(int limit) {
            if (fault != 0 || tape.kind != NUMBER) {
                fail(MISPLACED);
                return 0;
            }
            int number = tape.value();
            if (number >= limit) {
                fail(WRONG_NUMBER);
                return 0;
            }
            tape.step();
            return number;
        }

        private void readLine() {
            if (fault != 0) {
                return;
            }
            may = tape.isWord("may");
            takeWord(may ? "may" : "must");
            saying(0);
            takeSign(SEMICOLON);
        }

        /** TERMS are met here too, not in a method of their own: that keeps the calls that stand open few. */
        private void saying(int depth) {
            long sumLow = 0L;
            long sumHigh = 0L;
            long termLow = -1L;
            long termHigh = -1L;
            boolean more = true;
            for (int i = 0; i < SIGN_LIMIT && more; i++) {
                part(depth);
                termLow &= low;
                termHigh &= high;
                boolean sameTerm = fault == 0 && tape.isWord("and");
                if (!sameTerm) {
                    sumLow |= termLow;
                    sumHigh |= termHigh;
                    termLow = -1L;
                    termHigh = -1L;
                }
                more = sameTerm || fault == 0 && tape.isWord("or");
                if (more) {
                    tape.step();
                }
            }
            low = sumLow;
            high = sumHigh;
        }

        private void part(int depth) {
            if (fault != 0) {
                return;
            }
            boolean simple = tape.atom() != NONE || tape.isWord("true") || tape.isWord("false");
            boolean counted = tape.isWord("most") || tape.isWord("least");
            boolean negated = tape.isWord("not");
            if (!simple && !counted && !negated && tape.kind != OPEN) {
                fail(MISPLACED);
            } else if (depth >= DEPTH_LIMIT) {
                fail(TOO_MANY);
            } else if (simple) {
                simplePart();
            } else if (counted) {
                countedPart();
            } else if (negated) {
                tape.step();
                part(depth + 1);
                low = ~low;
                high = ~high;
            } else {
                tape.step();
                saying(depth + 1);
                takeSign(CLOSE);
            }
        }

        private void simplePart() {
            int atom = tape.atom();
            if (atom >= 0 && atom < ATOM_LIMIT) {
                low = ATOM_LOW[atom];
                high = ATOM_HIGH[atom];
            } else {
                low = tape.isWord("true") ? -1L : 0L;
                high = low;
            }
            tape.step();
        }

        private void countedPart() {
            boolean atMost = tape.isWord("most");
            tape.step();
            int limit = takeNumber(ATOM_LIMIT + 1);
            takeWord("of");
            takeSign(OPEN);
            int atoms = takeAtom(0);
            for (int i = 0; i < ATOM_LIMIT && fault == 0 && tape.kind != CLOSE; i++) {
                atoms = takeAtom(atoms);
            }
            takeSign(CLOSE);
            low = countedHalf(0, atoms, limit, atMost);
            high = countedHalf(HALF, atoms, limit, atMost);
        }

        private int takeAtom(int atoms) {
            int atom = tape.atom();
            if (fault != 0 || atom == NONE) {
                fail(MISPLACED);
                return atoms;
            }
            if ((atoms >> atom & 1) != 0) {
                fail(TOLD_TWICE);
                return atoms;
            }
            tape.step();
            return atoms | 1 << atom;
        }

        private static long countedHalf(int from, int atoms, int limit, boolean atMost) {
            long half = 0L;
            for (int i = 0; i < HALF; i++) {
                int number = Integer.bitCount(from + i & atoms);
                if (atMost ? number <= limit : number >= limit) {
                    half |= 1L << i;
                }
            }
            return half;
        }
    }

    /** All LINES, of the LAW and of the WISHES; a row of them is a law, as bits of their places. */
    private static final class Lines {
        final long[] low;
        final long[] high;
        private long mays;
        /** How many the LAW has. */
        int size;
        /** The worlds that the row opened last allows. */
        long openLow;
        long openHigh;

        Lines() {
            low = new long[PLACES];
            high = new long[PLACES];
            mays = 0L;
            size = 0;
        }

        void put(int place, long lowHalf, long highHalf, boolean may) {
            if (place < 0 || place >= PLACES) {
                return;
            }
            low[place] = lowHalf;
            high[place] = highHalf;
            long bit = 1L << place;
            mays = may ? mays | bit : mays & ~bit;
        }

        void enact(Reader reader) {
            size = reader.lawSize;
            for (int line = 0; line < size && line < LINE_LIMIT; line++) {
                put(line, reader.lawLow[line], reader.lawHigh[line], reader.lawMay[line]);
            }
        }

        long whole() {
            return (1L << size) - 1;
        }

        boolean isMay(int place) {
            return (mays >> place & 1L) != 0;
        }

        void open(long row) {
            long meetLow = -1L;
            long meetHigh = -1L;
            long rest = row & ~mays & ALL_PLACES;
            for (int i = 0; i < PLACES && rest != 0; i++) {
                int place = Long.bitCount((rest & -rest) - 1);
                meetLow &= low[place];
                meetHigh &= high[place];
                rest &= rest - 1;
            }
            openLow = meetLow;
            openHigh = meetHigh;
        }

        int openWorlds(long row) {
            open(row);
            return Long.bitCount(openLow) + Long.bitCount(openHigh);
        }

        boolean allows(long row, int world) {
            open(row);
            return isSo(openLow, openHigh, world);
        }

        int quarrel(long row) {
            open(row);
            if ((openLow | openHigh) == 0) {
                return NO_WORLD;
            }
            return inVain(row) == NONE ? 0 : MAY_IN_VAIN;
        }

        /** The first may that is so in none of the worlds opened: the row must have been opened. */
        int inVain(long row) {
            long rest = row & mays & ALL_PLACES;
            for (int i = 0; i < PLACES && rest != 0; i++) {
                int place = Long.bitCount((rest & -rest) - 1);
                if ((openLow & low[place] | openHigh & high[place]) == 0) {
                    return place;
                }
                rest &= rest - 1;
            }
            return NONE;
        }

        boolean meanSame(long one, long other) {
            open(one);
            long oneLow = openLow;
            long oneHigh = openHigh;
            open(other);
            return oneLow == openLow && oneHigh == openHigh && hasMays(one, other) && hasMays(other, one);
        }

        /** Whether each may of needed has its like in row; those in both need no look. */
        private boolean hasMays(long row, long needed) {
            long missing = needed & ~row & mays;
            long there = row & mays;
            for (int place = 0; place < PLACES && missing >> place != 0; place++) {
                boolean found = (missing >> place & 1L) == 0;
                for (int other = 0; other < PLACES && !found; other++) {
                    found = (there >> other & 1L) != 0 && low[place] == low[other] && high[place] == high[other];
                }
                if (!found) {
                    return false;
                }
            }
            return true;
        }

        /** Whether two places have the same must or may, so in the same worlds. */
        boolean alike(int one, int other) {
            return isMay(one) == isMay(other) && low[one] == low[other] && high[one] == high[other];
        }

        int fewestAlike() {
            int needed = neededLines();
            int best = (int) whole();
            for (int set = needed; set < 1 << size; set++) {
                boolean hopeful = (set & needed) == needed && Integer.bitCount(set) < Integer.bitCount(best);
                if (hopeful && meanSame(set, whole())) {
                    best = set;
                }
            }
            return best;
        }

        /** Without a LINE that is not idle no fewer LINES can mean the same either. */
        private int neededLines() {
            int needed = 0;
            for (int line = 0; line < size; line++) {
                if (!isIdle(line)) {
                    needed |= 1 << line;
                }
            }
            return needed;
        }

        boolean isIdle(int line) {
            return meanSame(whole() & ~(1L << line), whole());
        }
    }

    /** The WISHES in the order in which they were told. */
    private static final class Wishes {
        final int[] verb;
        final int[] target;
        final int[] person;
        final int[] day;
        /** NONE until it is withdrawn. */
        final int[] gone;
        int size;

        Wishes() {
            verb = new int[WISH_LIMIT];
            target = new int[WISH_LIMIT];
            person = new int[WISH_LIMIT];
            day = new int[WISH_LIMIT];
            gone = new int[WISH_LIMIT];
            size = 0;
        }

        void add(int newVerb, int newTarget, int newPerson, int now) {
            if (size >= WISH_LIMIT) {
                return;
            }
            verb[size] = newVerb;
            target[size] = newTarget;
            person[size] = newPerson;
            day[size] = now;
            gone[size] = NONE;
            size++;
        }

        boolean isSeen(int wish, int view) {
            return day[wish] <= view && (gone[wish] == NONE || gone[wish] > view);
        }

        int seenOn(int view) {
            int seen = 0;
            for (int wish = 0; wish < size; wish++) {
                if (isSeen(wish, view)) {
                    seen++;
                }
            }
            return seen;
        }

        int withdrawn() {
            int number = 0;
            for (int wish = 0; wish < size; wish++) {
                if (gone[wish] != NONE) {
                    number++;
                }
            }
            return number;
        }

        /** The place that it empties, as a bit. */
        long cut(int wish) {
            boolean cuts = verb[wish] == STRIKE || verb[wish] == CHANGE;
            return cuts ? 1L << target[wish] : 0L;
        }

        /** The place that it fills, as a bit: a change's LINE may stand behind, for no answer hangs on the order. */
        long fill(int wish) {
            boolean fills = verb[wish] == CHANGE || verb[wish] == ADD;
            return fills ? 1L << LINE_LIMIT + wish : 0L;
        }
    }

    /** The CASES, and the GROUNDS that are held against them. */
    private static final class Cases {
        final int[] world;
        final int[] day;
        int size;
        final int[] groundWish;
        private final long[] groundLow;
        private final long[] groundHigh;
        int grounds;

        Cases() {
            world = new int[CASE_LIMIT];
            day = new int[CASE_LIMIT];
            size = 0;
            groundWish = new int[GROUND_LIMIT];
            groundLow = new long[GROUND_LIMIT];
            groundHigh = new long[GROUND_LIMIT];
            grounds = 0;
        }

        int addCase(int newWorld, int now) {
            if (size >= CASE_LIMIT) {
                return NONE;
            }
            world[size] = newWorld;
            day[size] = now;
            size++;
            return size - 1;
        }

        void addGround(int wish, long low, long high) {
            if (grounds >= GROUND_LIMIT) {
                return;
            }
            groundWish[grounds] = wish;
            groundLow[grounds] = low;
            groundHigh[grounds] = high;
            grounds++;
        }

        int seenOn(int view) {
            int seen = 0;
            for (int number = 0; number < size; number++) {
                if (day[number] <= view) {
                    seen++;
                }
            }
            return seen;
        }

        int firstAgainst(int ground, int view) {
            for (int number = 0; number < size; number++) {
                if (day[number] <= view && !isSo(groundLow[ground], groundHigh[ground], world[number])) {
                    return number;
                }
            }
            return NONE;
        }

        boolean holds(int ground, int view) {
            return seenOn(view) > 0 && firstAgainst(ground, view) == NONE;
        }
    }

    /** The GROUPS in THE VIEW, and which of them go together. */
    private static final class Groups {
        private final Lines lines;
        private final Wishes wishes;
        /** The group of each WISH; NONE if it is not in THE VIEW. */
        final int[] of;
        final int[] first;
        int size;
        private final long[] cuts;
        private final long[] fills;
        private final int[] touched;
        /** Sets of the first 12 that have been looked at, and those of them that go: they are asked for again and again. */
        private final long[] known;
        private final long[] going;

        Groups(Lines lines, Wishes wishes) {
            this.lines = lines;
            this.wishes = wishes;
            of = new int[WISH_LIMIT];
            first = new int[WISH_LIMIT];
            size = 0;
            cuts = new long[WISH_LIMIT];
            fills = new long[WISH_LIMIT];
            touched = new int[WISH_LIMIT];
            known = new long[SET_WORDS];
            going = new long[SET_WORDS];
        }

        void renew(int view) {
            size = 0;
            for (int wish = 0; wish < wishes.size; wish++) {
                of[wish] = wishes.isSeen(wish, view) ? join(wish) : NONE;
            }
            for (int group = 0; group < size; group++) {
                touched[group] = touchedBy(group);
            }
            for (int word = 0; word < SET_WORDS; word++) {
                known[word] = 0L;
                going[word] = 0L;
            }
        }

        private int join(int wish) {
            for (int group = 0; group < size; group++) {
                if (askSame(first[group], wish)) {
                    return group;
                }
            }
            if (size >= WISH_LIMIT) {
                return NONE;
            }
            first[size] = wish;
            cuts[size] = wishes.cut(wish);
            fills[size] = wishes.fill(wish);
            size++;
            return size - 1;
        }

        private boolean askSame(int one, int other) {
            boolean keeps = wishes.verb[one] == KEEP;
            if (keeps != (wishes.verb[other] == KEEP)) {
                return false;
            }
            if (keeps) {
                return wishes.target[one] == wishes.target[other];
            }
            return lines.meanSame(lawByWish(one), lawByWish(other));
        }

        private long lawByWish(int wish) {
            return lines.whole() & ~wishes.cut(wish) | wishes.fill(wish);
        }

        private int touchedBy(int group) {
            int set = 0;
            for (int other = 0; other < size; other++) {
                if (touch(first[group], first[other])) {
                    set |= 1 << other;
                }
            }
            return set;
        }

        private boolean touch(int one, int other) {
            if (wishes.target[one] == NONE || wishes.target[one] != wishes.target[other]) {
                return false;
            }
            if (wishes.verb[one] != wishes.verb[other]) {
                return true;
            }
            return wishes.verb[one] == CHANGE && !lines.alike(LINE_LIMIT + one, LINE_LIMIT + other);
        }

        int wishesIn(int group) {
            int number = 0;
            for (int wish = 0; wish < wishes.size; wish++) {
                if (of[wish] == group) {
                    number++;
                }
            }
            return number;
        }

        long lawBy(int set) {
            long row = lines.whole();
            for (int group = 0; group < size && set >> group != 0; group++) {
                if ((set >> group & 1) != 0) {
                    row = row & ~cuts[group] | fills[group];
                }
            }
            return row;
        }

        int clashOf(int a, int b) {
            if ((touched[a] >> b & 1) != 0) {
                return TOUCHING;
            }
            return lines.quarrel(lawBy(1 << a | 1 << b));
        }

        boolean goes(int set) {
            int word = set / HALF;
            if (word < 0 || word >= SET_WORDS) {
                return looksGoing(set);
            }
            long bit = 1L << (set & (HALF - 1));
            if ((known[word] & bit) == 0) {
                known[word] |= bit;
                if (looksGoing(set)) {
                    going[word] |= bit;
                }
            }
            return (going[word] & bit) != 0;
        }

        private boolean looksGoing(int set) {
            for (int group = 0; group < size && set >> group != 0; group++) {
                if ((set >> group & 1) != 0 && (touched[group] & set) != 0) {
                    return false;
                }
            }
            return lines.quarrel(lawBy(set)) == 0;
        }
    }

    /** What a GROUP weighs. */
    private static final class Weights {
        private final Groups groups;
        private final Wishes wishes;
        private final Lines lines;
        private final Cases cases;
        private final int[] houseOf;

        Weights(Groups groups, Wishes wishes, Lines lines, Cases cases, int[] houseOf) {
            this.groups = groups;
            this.wishes = wishes;
            this.lines = lines;
            this.cases = cases;
            this.houseOf = houseOf;
        }

        int weigh(int group, int weight, int view) {
            switch (weight) {
                case HANDS:
                    return hands(group);
                case HOUSES:
                    return houses(group);
                case REACH:
                    return reach(group);
                default:
                    return groundsHeld(group, view);
            }
        }

        private int hands(int group) {
            long low = 0L;
            long high = 0L;
            for (int wish = 0; wish < wishes.size; wish++) {
                int person = wishes.person[wish];
                if (groups.of[wish] == group && person < HALF) {
                    low |= 1L << person;
                } else if (groups.of[wish] == group) {
                    high |= 1L << person - HALF;
                }
            }
            return Long.bitCount(low) + Long.bitCount(high);
        }

        private int houses(int group) {
            int set = 0;
            for (int wish = 0; wish < wishes.size; wish++) {
                if (groups.of[wish] == group) {
                    set |= 1 << houseOf[wishes.person[wish]];
                }
            }
            return Integer.bitCount(set);
        }

        private int reach(int group) {
            lines.open(lines.whole());
            long low = lines.openLow;
            long high = lines.openHigh;
            lines.open(groups.lawBy(1 << group));
            return Long.bitCount(low ^ lines.openLow) + Long.bitCount(high ^ lines.openHigh);
        }

        private int groundsHeld(int group, int view) {
            int number = 0;
            for (int ground = 0; ground < cases.grounds; ground++) {
                if (groups.of[cases.groundWish[ground]] == group && cases.holds(ground, view)) {
                    number++;
                }
            }
            return number;
        }
    }

    /** Looks for the DRAFT of a WEIGHT. */
    private static final class Drafts {
        private final Groups groups;
        private final Weights weights;
        private final int[] weightOf;
        private int best;
        int bestSum;

        Drafts(Groups groups, Weights weights) {
            this.groups = groups;
            this.weights = weights;
            weightOf = new int[DRAFT_LIMIT];
        }

        int pick(int weight, int view) {
            int number = Math.min(groups.size, DRAFT_LIMIT);
            for (int group = 0; group < number; group++) {
                weightOf[group] = weights.weigh(group, weight, view);
            }
            best = NONE;
            bestSum = NONE;
            search(number - 1, 0, 0);
            return best;
        }

        /** Goes through the sets by their numbers, the least first: so of equal ones the first that is found stays. */
        private void search(int group, int set, int sum) {
            if (group >= 0 && group < DRAFT_LIMIT) {
                search(group - 1, set, sum);
                search(group - 1, set | 1 << group, sum + weightOf[group]);
            } else if (isBetter(set, sum) && groups.goes(set)) {
                best = set;
                bestSum = sum;
            }
        }

        private boolean isBetter(int set, int sum) {
            return sum > bestSum || sum == bestSum && Integer.bitCount(set) < Integer.bitCount(best);
        }
    }

    /** The VOTES of the HOUSES. */
    private static final class Ballots {
        private final Groups groups;
        /** The groups for which each house votes yes, as bits. */
        final int[] yes;
        private int number;
        private int passing;
        int sure;
        int maybe;
        long results;
        private int favoured;
        int most;
        int fewestTaken;
        int bestOrder;

        Ballots(Groups groups) {
            this.groups = groups;
            yes = new int[HOUSE_LIMIT];
        }

        void forget() {
            for (int house = 0; house < HOUSE_LIMIT; house++) {
                yes[house] = 0;
            }
        }

        void cast(int house, int group, boolean isYes) {
            int bit = 1 << group;
            yes[house] = isYes ? yes[house] | bit : yes[house] & ~bit;
        }

        /** RESULT of the order 0, 1, .. if one house (NONE: none) voted otherwise on the groups of flipped. */
        int inPlainOrder(int house, int flipped) {
            ready(house, flipped);
            int taken = 0;
            for (int group = 0; group < number; group++) {
                taken = takenWith(taken, 1 << group);
            }
            return taken;
        }

        private void ready(int house, int flipped) {
            number = Math.min(groups.size, VOTE_LIMIT);
            passing = 0;
            for (int group = 0; group < number; group++) {
                int votes = 0;
                for (int other = 0; other < HOUSE_LIMIT; other++) {
                    int set = other == house ? yes[other] ^ flipped : yes[other];
                    votes += set >> group & 1;
                }
                if (votes >= MAJORITY) {
                    passing |= 1 << group;
                }
            }
        }

        private int takenWith(int taken, int bit) {
            boolean takes = (passing & bit) != 0 && groups.goes(taken | bit);
            return takes ? taken | bit : taken;
        }

        void tryOrders(int favouredSet) {
            ready(NONE, 0);
            favoured = favouredSet;
            sure = (1 << number) - 1;
            maybe = 0;
            results = 0L;
            most = NONE;
            fewestTaken = VOTE_LIMIT;
            bestOrder = 0;
            putNext(number, 0, 0, 0);
        }

        private void putNext(int left, int put, int taken, int order) {
            if (left <= 0) {
                note(taken, order);
                return;
            }
            for (int group = 0; group < number; group++) {
                int bit = 1 << group;
                if ((put & bit) == 0) {
                    putNext(left - 1, put | bit, takenWith(taken, bit), order * 8 + group);
                }
            }
        }

        private void note(int taken, int order) {
            sure &= taken;
            maybe |= taken;
            results |= 1L << taken;
            int liked = Integer.bitCount(taken & favoured);
            if (liked > most) {
                most = liked;
                bestOrder = order;
            }
            fewestTaken = Math.min(fewestTaken, liked);
        }

        int firstGain(int house) {
            int liked = Integer.bitCount(inPlainOrder(NONE, 0) & yes[house]);
            int there = number;
            for (int group = 0; group < there; group++) {
                int taken = inPlainOrder(house, 1 << group);
                if (Integer.bitCount(taken & yes[house]) > liked) {
                    return group;
                }
            }
            return NONE;
        }
    }

    /** Looks for the LEAST SETS in order and counts them. */
    private static final class LeastSets {
        private final Groups groups;
        /** The groups that go alone, and for each those behind it that go with it, as bits. */
        private int alone;
        private final int[] partners;
        private int wanted;
        int found;
        int answer;

        LeastSets(Groups groups) {
            this.groups = groups;
            partners = new int[WISH_LIMIT];
        }

        /** Leaves in answer the set at place i, NONE if there is none, and in found how many there are. */
        void seek(int n, int i) {
            wanted = i;
            found = 0;
            answer = NONE;
            if (!groups.goes(0)) {
                return;
            }
            findAlone();
            if (n == 1) {
                seekOnes();
                return;
            }
            findPartners();
            if (n == 2) {
                seekTwos();
            } else {
                seekThrees();
            }
        }

        private void findAlone() {
            alone = 0;
            for (int group = 0; group < groups.size; group++) {
                if (groups.goes(1 << group)) {
                    alone |= 1 << group;
                }
            }
        }

        /** Of those that go alone only: the others are in no least set of more than one. */
        private void findPartners() {
            for (int one = 0; one < groups.size; one++) {
                partners[one] = 0;
                for (int other = 0; other < one; other++) {
                    int pair = 1 << one | 1 << other;
                    if ((alone & pair) == pair && groups.goes(pair)) {
                        partners[other] |= 1 << one;
                    }
                }
            }
        }

        private void meet(int set) {
            if (found == wanted) {
                answer = set;
            }
            found++;
        }

        private void seekOnes() {
            for (int group = 0; group < groups.size; group++) {
                if ((alone >> group & 1) == 0) {
                    meet(1 << group);
                }
            }
        }

        private void seekTwos() {
            for (int one = 0; one < groups.size; one++) {
                for (int other = one + 1; other < groups.size; other++) {
                    int pair = 1 << one | 1 << other;
                    if ((alone & pair) == pair && (partners[one] >> other & 1) == 0) {
                        meet(pair);
                    }
                }
            }
        }

        private void seekThrees() {
            for (int one = 0; one < groups.size; one++) {
                for (int other = one + 1; other < groups.size; other++) {
                    if ((partners[one] >> other & 1) != 0) {
                        seekThirds(one, other);
                    }
                }
            }
        }

        private void seekThirds(int one, int other) {
            int both = partners[one] & partners[other];
            int pair = 1 << one | 1 << other;
            for (int third = other + 1; third < groups.size; third++) {
                if ((both >> third & 1) != 0 && !groups.goes(pair | 1 << third)) {
                    meet(pair | 1 << third);
                }
            }
        }
    }
}
