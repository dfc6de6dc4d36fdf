import java.io.IOException;
import java.nio.file.Files;
import java.nio.file.Path;
import java.util.NoSuchElementException;

/**
 * The boundary cases, sentence by sentence: each sentence of the document that names one (too small, too large, empty,
 * full, a wrap-around, a refused call) stands here by its words, with the promise through which it is seen; beside them some
 * readings, which follow from it but are not its words.
 */
public final class BoundaryTest extends Letters {
    private static final Path DOCUMENT = Path.of("..", "shared", "DOC.md");
    private static final int PROMISES = 32;
    private static final int LEAST_INT = Integer.MIN_VALUE;
    private static final int GREATEST_INT = Integer.MAX_VALUE;
    /** Numbers that are no number of anything, those among them that wrap around when something is added or shifted. */
    private static final int[] FAR = {-1, -2, LEAST_INT, LEAST_INT + 1, GREATEST_INT, GREATEST_INT - 1, 1 << 30, -(1 << 30),
        65536, 256, -128, 1000000};
    private static final String ZERO_WORLD = "not a and not b and not c and not d and not e and not f and not g";
    private static final String[] TOKENS = {"must", "may", "or", "and", "not", "true", "false", "most", "least", "of", "strike",
        "keep", "change", "to", "add", "a", "b", "g", "h", "z", "0", "00", "007", "7", "8", "008", "11", "12", "999", "1000",
        "0000", "(", ")", ";", "=", ",", "A", "~", "!", "abcdefgh", "abcdefghi", "musts", "mus", "aa", ""};
    private static final String PARTS = "not|true|false|most|least|a|b|g|(";

    private static int wrong = 0;
    private static int checks = 0;
    private static int sentences = 0;
    private static int readings = 0;
    private static int checksAhead = 0;
    private static int promise = 0;
    private static String words = "";
    private static String document = "";
    private static final boolean[] reached = new boolean[PROMISES + 1];

    public static void main(String[] args) throws IOException {
        document = Files.readString(DOCUMENT).replaceAll("\\s+", " ");
        newObject();
        days();
        view();
        feed();
        lawTape();
        lawTokens();
        lawGrammar();
        lawDepth();
        lawLines();
        lawGone();
        wish();
        wishGrammar();
        withdraw();
        house();
        allowed();
        rule();
        line();
        look();
        ground();
        held();
        group();
        groupSame();
        clash();
        together();
        least();
        leastSet();
        draft();
        why();
        vote();
        votes();
        favour();
        gain();
        world();
        cases();
        blamed();
        idle();
        fewest();
        beside();
        count();
        askedAgain();
        askedLess();
        sentence(0, "");
        for (int number = 1; number <= PROMISES; number++) {
            due("promise " + number + " has a sentence", reached[number], true);
        }
        System.out.println(sentences + " sentences, " + readings + " readings, " + checks + " checks, " + wrong + " wrong");
        if (wrong != 0) {
            System.exit(1);
        }
    }

    // ---- helpers

    /** Words of the document; " .. " stands where some of them are left out. */
    private static void sentence(int number, String text) {
        begin(number, text);
        if (number != 0) {
            sentences++;
            reached[number] = true;
        }
        for (String piece : text.split(" \\.\\. ")) {
            if (!document.contains(piece)) {
                wrong++;
                System.out.println("promise " + number + ": these are no words of the document: '" + piece + "'");
            }
        }
    }

    /** What follows from the document though it does not say so in these words. */
    private static void reading(int number, String text) {
        begin(number, text);
        readings++;
    }

    /** A sentence without a check would be told as held though nothing was looked at. */
    private static void begin(int number, String text) {
        if (promise != 0 && checks == checksAhead) {
            wrong++;
            System.out.println("promise " + promise + ", '" + words + "': nothing is checked");
        }
        promise = number;
        words = text;
        checksAhead = checks;
    }

    private static void due(String call, long got, long want) {
        checks++;
        if (got != want) {
            wrong++;
            System.out.println("promise " + promise + ", '" + words + "': " + call + " answered " + got + ", due is " + want);
        }
    }

    private static void due(String call, boolean got, boolean want) {
        due(call, got ? 1 : 0, want ? 1 : 0);
    }

    private static WishRoom under(String law, String... wishes) {
        WishRoom room = new WishRoom();
        due("law " + law, law(room, law), 0);
        for (int i = 0; i < wishes.length; i++) {
            due("wish " + wishes[i], wish(room, i, wishes[i]), 0);
        }
        return room;
    }

    private static void yes(WishRoom room, int group, int houses) {
        for (int house = 0; house < houses; house++) {
            room.vote(house, group, true);
        }
    }

    private static String worldText(int world) {
        StringBuilder text = new StringBuilder();
        for (int atom = 0; atom < 7; atom++) {
            text.append(atom == 0 ? "" : " and ").append((world >> atom & 1) == 1 ? "" : "not ");
            text.append((char) ('a' + atom));
        }
        return text.toString();
    }

    /** GROUP i, of person i, forbids the WORLD i; none of them clash. */
    private static WishRoom forbidding(int groups) {
        WishRoom room = under("");
        for (int i = 0; i < groups; i++) {
            due("wish " + i, wish(room, i, "add must not(" + worldText(i) + ");"), 0);
        }
        return room;
    }

    /** Thirty GROUPS, each of which touches each: they change the one LINE. */
    private static WishRoom thirtyChanges() {
        WishRoom room = under("must true;");
        for (int i = 0; i < 30; i++) {
            due("wish " + i, wish(room, i, "change 0 to must not(" + worldText(i) + ");"), 0);
        }
        return room;
    }

    /** Any two of the seven GROUPS go together, no three of them do. */
    private static WishRoom noThree() {
        return under("must most 2 of (a b c d e f g);", "add must a;", "add must b;", "add must c;", "add must d;",
            "add must e;", "add must f;", "add must g;");
    }

    private static int kindOf(int fault) {
        return fault % 16;
    }

    private static int placeOf(int fault) {
        return fault / 16;
    }

    // ---- promise 1

    private static void newObject() {
        sentence(1, "A LAW without LINES");
        WishRoom room = new WishRoom();
        due("rule(0)", room.rule(0), 0);
        due("rule(1)", room.rule(1), 128);
        due("rule(2)", room.rule(2), 0);
        due("rule(3)", room.rule(3), -1);
        due("line(0, 0)", room.line(0, 0), -1);
        due("line(0, 1)", room.line(0, 1), -1);
        due("idle(0)", room.idle(0), -1);
        due("fewest(0)", room.fewest(0), 0);
        due("fewest(1)", room.fewest(1), 0);
        for (int world = 0; world < 128; world++) {
            due("allowed(" + world + ")", room.allowed(world), 1);
        }
        sentence(1, "no WISH");
        room = new WishRoom();
        due("WISHES", room.count(2), 0);
        due("WISHES in THE VIEW", room.count(3), 0);
        due("GROUPS", room.count(4), 0);
        due("WITHDRAWN", room.count(8), 0);
        due("look(0, 0)", room.look(0, 0), -1);
        due("look(0, 1)", room.look(0, 1), -1);
        due("withdraw(0)", room.withdraw(0), false);
        due("group(0, 0)", room.group(0, 0), -1);
        due("clash(0, 1)", room.clash(0, 1), -1);
        due("together(0)", room.together(0), 1);
        due("together(1)", room.together(1), -1);
        due("GROUNDS", room.count(9), 0);
        due("CASES", room.count(5), 0);
        due("TAPE", room.count(7), 0);
        for (int n = 1; n <= 3; n++) {
            due("least(" + n + ")", room.least(n), 0);
            due("leastSet(" + n + ", 0)", room.leastSet(n, 0), -1);
        }
        for (int weight = 0; weight < 4; weight++) {
            due("the empty draft", room.draft(weight, 0), 0);
            due("its sum", room.draft(weight, 1), 0);
            due("its LINES", room.draft(weight, 2), 0);
            due("its WORLDS", room.draft(weight, 3), 128);
            due("why(0, " + weight + ", 0)", room.why(0, weight, 0), -1);
            due("cases", room.cases(weight, 0), 0);
            due("blamed", room.blamed(0, weight), -1);
        }
        sentence(1, "NOW is 0");
        room = new WishRoom();
        due("NOW", room.count(0), 0);
        due("THE VIEW", room.count(1), 0);
        reading(1, "A new object has nothing of another one");
        WishRoom other = under("must a;", "strike 0;");
        other.house(5, 3);
        other.world(7);
        other.days(9);
        other.vote(0, 0, true);
        tell(other, "must");
        room = new WishRoom();
        for (int what = 0; what < 10; what++) {
            due("count(" + what + ")", room.count(what), 0);
        }
    }

    // ---- promise 2

    private static void days() {
        sentence(2, "n DAYS pass (0 to 1000): NOW");
        WishRoom room = new WishRoom();
        due("days(0)", room.days(0), 0);
        due("days(1)", room.days(1), 1);
        due("days(999)", room.days(999), 1000);
        due("days(1000)", room.days(1000), 2000);
        due("days(0)", room.days(0), 2000);
        due("count(0)", room.count(0), 2000);
        sentence(2, "NONE for another n");
        for (int n : new int[] {1001, 1002, 2000, 9999, 10000}) {
            due("days(" + n + ")", room.days(n), -1);
        }
        for (int n : FAR) {
            if (n < 0 || n > 1000) {
                due("days(" + n + ")", room.days(n), -1);
            }
        }
        due("NOW stays", room.count(0), 2000);
        sentence(2, "NONE for .. beyond 9999");
        for (int i = 3; i <= 9; i++) {
            due("days(1000)", room.days(1000), 1000 * i);
        }
        due("days(1000) on 9000", room.days(1000), -1);
        due("NOW stays", room.count(0), 9000);
        due("days(999) on 9000", room.days(999), 9999);
        due("days(1) on 9999", room.days(1), -1);
        due("days(1000) on 9999", room.days(1000), -1);
        due("days(greatest) on 9999", room.days(GREATEST_INT), -1);
        due("days(least) on 9999", room.days(LEAST_INT), -1);
        due("days(-1) on 9999", room.days(-1), -1);
        due("days(0) on 9999", room.days(0), 9999);
        due("NOW stays", room.count(0), 9999);
        sentence(2, "THE VIEW .. is NOW until another one is told");
        due("THE VIEW went along", room.count(1), 9999);
        room.view(9998);
        room.days(0);
        due("THE VIEW stays", room.count(1), 9998);
        room.days(GREATEST_INT);
        due("a refused call changes nothing", room.count(1), 9998);
    }

    // ---- promise 3

    private static void view() {
        sentence(3, "false: a DAY behind NOW");
        WishRoom room = new WishRoom();
        due("view(1) on 0", room.view(1), false);
        room.days(7);
        due("view(8) on 7", room.view(8), false);
        due("view(7) on 7", room.view(7), true);
        due("view(6) on 7", room.view(6), true);
        due("view(8) on 7", room.view(8), false);
        due("THE VIEW stays", room.count(1), 6);
        due("view(9999)", room.view(9999), false);
        due("view(10000)", room.view(10000), false);
        sentence(3, "false: .. below 0");
        for (int day : FAR) {
            if (day < 0 || day > 7) {
                due("view(" + day + ")", room.view(day), false);
            }
        }
        due("THE VIEW stays", room.count(1), 6);
        sentence(3, "THE VIEW: true");
        for (int day = 0; day <= 7; day++) {
            due("view(" + day + ")", room.view(day), true);
            due("THE VIEW", room.count(1), day);
        }
        sentence(3, "It is NOW until another one is told, and NOW again if that is told");
        room = new WishRoom();
        due("THE VIEW on day 0", room.view(0), true);
        room.days(3);
        due("day 0 was NOW: THE VIEW goes along", room.count(1), 3);
        room.view(0);
        room.days(4);
        due("another one was told", room.count(1), 0);
        room.view(7);
        room.days(2);
        due("NOW was told", room.count(1), 9);
        room.view(10);
        room.days(1);
        due("a DAY that is refused is not told", room.count(1), 10);
        sentence(3, "WISHES and CASES told on it or ahead");
        room = under("must a;");
        for (int day = 0; day < 3; day++) {
            wish(room, day, "add must " + (char) ('a' + day) + " and b;");
            room.world(day);
            room.days(1);
        }
        for (int day = 0; day < 3; day++) {
            room.view(day);
            due("WISHES in THE VIEW of " + day, room.count(3), day + 1);
            due("CASES in THE VIEW of " + day, room.count(6), day + 1);
        }
        sentence(3, "of WITHDRAWN ones those withdrawn behind it");
        room = under("must a;", "strike 0;");
        room.days(2);
        room.withdraw(0);
        room.days(2);
        int[] want = {1, 1, 0, 0, 0};
        for (int day = 0; day < 5; day++) {
            room.view(day);
            due("WISHES in THE VIEW of " + day, room.count(3), want[day]);
            due("GROUPS in THE VIEW of " + day, room.count(4), want[day]);
        }
        sentence(3, "All else is as it is");
        room = under("must a;", "strike 0;");
        ground(room, 0, "a;");
        room.days(5);
        room.house(0, 4);
        wish(room, 1, "strike 0;");
        room.vote(0, 0, true);
        law(room, "must b; may c;");
        room.view(0);
        due("the LAW of today", room.rule(0), 2);
        room = under("must a;", "strike 0;", "strike 0;");
        room.days(5);
        room.house(0, 4);
        ground(room, 0, "true;");
        yes(room, 0, 4);
        room.view(0);
        due("the HOUSES of today", room.group(0, 1), 2);
        due("the GROUNDS of today", room.count(9), 1);
        due("the VOTES of today", room.votes(3), 1);
    }

    // ---- promise 4

    private static void feed() {
        sentence(4, "Up to 24 signs come behind the TAPE .. others than 10 and 32 .. 126 .. are left out");
        for (int sign = 0; sign < 256; sign++) {
            int takes = sign == 10 || sign >= 32 && sign <= 126 ? 1 : 0;
            for (int place = 0; place < 24; place++) {
                long eight = (long) sign << 56 - 8 * (place % 8);
                WishRoom room = new WishRoom();
                int got = room.feed(place < 8 ? eight : 0, place >= 8 && place < 16 ? eight : 0, place >= 16 ? eight : 0);
                due("sign " + sign + " at " + place, got, takes);
            }
        }
        WishRoom room = new WishRoom();
        due("none", room.feed(0, 0, 0), 0);
        due("all bits", room.feed(-1L, -1L, -1L), 0);
        due("the least long", room.feed(Long.MIN_VALUE, Long.MIN_VALUE, Long.MIN_VALUE), 0);
        due("the greatest long", room.feed(Long.MAX_VALUE, Long.MAX_VALUE, Long.MAX_VALUE), 0);
        due("24 signs", room.feed(0x6161616161616161L, 0x6161616161616161L, 0x6161616161616161L), 24);
        sentence(4, "the bytes of a, b, c, of each the highest first");
        for (int place = 0; place < 24; place++) {
            long[] eights = {0x2020202020202020L, 0x2020202020202020L, 0x2020202020202020L};
            eights[place / 8] ^= (long) (' ' ^ '=') << 56 - 8 * (place % 8);
            room = new WishRoom();
            due("24 signs", room.feed(eights[0], eights[1], eights[2]), 24);
            due("a wrong sign at " + place, room.law(), 1 + 16L * place);
        }
        room = new WishRoom();
        due("with gaps", room.feed(0x006D007500730074L, 0x2000000000000061L, 0x000000000000003BL), 7);
        due("they stand side by side", room.law(), 0);
        due("line(0, 1)", room.line(0, 1), 64);
        sentence(4, "what is beyond 1,000, are left out: how many there are");
        room = new WishRoom();
        tell(room, " ".repeat(999));
        due("999", room.count(7), 999);
        due("signs that are none do not fill it", room.feed(-1L, 0, 0), 999);
        due("the 1000th", room.feed(0x2000000000000000L, 0, 0), 1000);
        due("the 1001st", room.feed(0x2000000000000000L, 0, 0), 1000);
        due("24 more", room.feed(0x2020202020202020L, 0x2020202020202020L, 0x2020202020202020L), 1000);
        due("count(7)", room.count(7), 1000);
        room = new WishRoom();
        tell(room, " ".repeat(984));
        due("16 of 24 fit", room.feed(0x6D75737420612020L, 0x202020202020203BL, 0x6D75737420622020L), 1000);
        due("those that fit are the first ones", room.law(), 0);
        due("one LINE", room.rule(0), 1);
        room = new WishRoom();
        tell(room, " ".repeat(985));
        due("15 of 24 fit", room.feed(0x6D75737420612020L, 0x202020202020203BL, 0), 1000);
        due("the semicolon was left out", room.law(), 1 + 16 * 1000);
        due("the TAPE can be filled again", room.feed(0x2020202020202020L, 0, 0), 8);
    }

    // ---- promise 5

    private static void lawTape() {
        sentence(5, "what reads it takes it: it is empty then");
        WishRoom room = new WishRoom();
        tell(room, "must a;");
        due("law()", room.law(), 0);
        due("TAPE behind a law", room.count(7), 0);
        tell(room, "must a");
        due("law()", room.law(), 1 + 16 * 6);
        due("TAPE behind a fault", room.count(7), 0);
        due("the empty TAPE is a LAW", room.law(), 0);
        due("without LINES", room.rule(0), 0);
        sentence(5, "The TAPE has at most 1,000 signs");
        String full = "must a" + " or not b".repeat(110);
        String wide = full + " ".repeat(999 - full.length()) + ";";
        due("a text of 1,000 signs", wide.length(), 1000);
        due("it is a LAW", law(new WishRoom(), wide), 0);
        due("its semicolon one further on", law(new WishRoom(), full + " ".repeat(1000 - full.length()) + ";"), 1 + 16 * 1000);
        sentence(5, "LAW: any number of LINES");
        room = under("must a; may b;");
        due("none", law(room, ""), 0);
        due("LINES", room.rule(0), 0);
        room = under("must a; may b;");
        due("blanks alone", law(room, "\n \n"), 0);
        due("LINES", room.rule(0), 0);
    }

    private static int lineWorlds(String text) {
        WishRoom room = new WishRoom();
        int fault = law(room, text);
        return fault == 0 ? room.line(0, 1) : -100 - fault;
    }

    private static void lawTokens() {
        sentence(5, "blanks (10, 32) between where one likes");
        due("none", lineWorlds("must(a)or(b)and not(c);"), 80);
        due("many", lineWorlds("\n must \n\n ( a ) or  ( b )\nand not ( c )  ; \n"), 80);
        due("one is needed between two WORDS", lineWorlds("musta;"), -101);
        due("nota", lineWorlds("must nota;"), -101 - 16 * 5);
        sentence(5, "WORDS (letters a .. z, 8 at most)");
        due("9 letters are none, at the first", law(new WishRoom(), "must a or abcdefghi;"), 1 + 16 * 10);
        due("8 letters", law(new WishRoom(), "must a or abcdefgh;"), 1 + 16 * 10);
        due("a long one", law(new WishRoom(), "must a or " + "a".repeat(900) + ";"), 1 + 16 * 10);
        due("great letters are none", law(new WishRoom(), "Must a;"), 1);
        due("the sign ahead of a", law(new WishRoom(), "must `;"), 1 + 16 * 5);
        due("the sign behind z", law(new WishRoom(), "must {;"), 1 + 16 * 5);
        sentence(5, "TOKENS, each as long as can be");
        for (char letter = 'a'; letter <= 'z'; letter++) {
            due("an ATOM and a letter are one WORD", law(new WishRoom(), "must a" + letter + ";"), 1 + 16 * 5);
            due("a letter and an ATOM are one WORD", law(new WishRoom(), "must " + letter + "a;"), 1 + 16 * 5);
        }
        due("12 is no 1", lineWorlds("must most 12 of (a b);"), -104 - 16 * 10);
        due("1 2 is two NUMBERS", lineWorlds("must most 1 2 of (a b);"), -101 - 16 * 12);
        due("a sign is one alone", lineWorlds("must ((a));"), 64);
        reading(5, "a WORD is told by all its letters");
        for (String word : new String[] {"must", "may"}) {
            otherLetters("law", "", word, " a;");
        }
        for (String word : new String[] {"true", "false", "not", "most", "least"}) {
            otherLetters("law", "must ", word, " a;");
        }
        otherLetters("law", "must a ", "or", " a;");
        otherLetters("law", "must a ", "and", " a;");
        otherLetters("law", "must most 1 ", "of", " (a);");
        for (String word : new String[] {"strike", "keep", "change", "add"}) {
            otherLetters("wish", "", word, " 0;");
        }
        otherLetters("wish", "change 0 ", "to", " must a;");
        sentence(5, "NUMBERS (1 to 3 digits; a letter may stand right behind)");
        due("1 digit", lineWorlds("must most 1 of (a b);"), 96);
        due("2 digits", lineWorlds("must most 01 of (a b);"), 96);
        due("3 digits", lineWorlds("must most 001 of (a b);"), 96);
        due("4 digits", lineWorlds("must most 0001 of (a b);"), -101 - 16 * 10);
        due("many digits", lineWorlds("must most 99999999999999999999 of (a b);"), -101 - 16 * 10);
        due("a letter right behind", lineWorlds("must most 1of(a b);"), 96);
        due("a digit right behind a WORD", lineWorlds("must most1of(a b);"), 96);
        due("the sign ahead of 0", law(new WishRoom(), "must most / of (a);"), 1 + 16 * 10);
        due("the sign behind 9", law(new WishRoom(), "must most : of (a);"), 1 + 16 * 10);
        sentence(5, "ATOMS a to g are so or not; a WORLD is a number 0 to 127 (bit 0: a is so .. bit 6: g)");
        for (int atom = 0; atom < 7; atom++) {
            WishRoom room = under("must " + (char) ('a' + atom) + ";");
            for (int world : new int[] {0, 127, 1 << atom, 127 - (1 << atom), 63, 64, 31, 32}) {
                due("allowed(" + world + ")", room.allowed(world), world >> atom & 1);
            }
        }
        for (char letter = 'h'; letter <= 'z'; letter++) {
            due("no ATOM " + letter, law(new WishRoom(), "must " + letter + ";"), 1 + 16 * 5);
        }
        sentence(5, "N 0 to 7: so many of these are so at most (at least)");
        int[] choose = {1, 7, 21, 35, 35, 21, 7, 1};
        int most = 0;
        for (int n = 0; n <= 7; n++) {
            due("least " + n + " of seven", lineWorlds("must least " + n + " of (a b c d e f g);"), 128 - most);
            most += choose[n];
            due("most " + n + " of seven", lineWorlds("must most " + n + " of (g f e d c b a);"), most);
            due("most " + n + " of one", lineWorlds("must most " + n + " of (g);"), n == 0 ? 64 : 128);
            due("least " + n + " of one", lineWorlds("must least " + n + " of (g);"), n == 0 ? 128 : n == 1 ? 64 : 0);
        }
        due("8", lineWorlds("must most 8 of (a);"), -104 - 16 * 10);
        due("999", lineWorlds("must least 999 of (a);"), -104 - 16 * 11);
        sentence(5, "ATOMS: one or more, each once");
        due("none", lineWorlds("must most 1 of ();"), -101 - 16 * 16);
        due("one", lineWorlds("must most 0 of (a);"), 64);
        due("all seven and one again", lineWorlds("must most 1 of (a b c d e f g a);"), -103 - 16 * 30);
        due("one again at once", lineWorlds("must most 1 of (c c);"), -103 - 16 * 18);
        due("in another PART once more", lineWorlds("must most 1 of (a) and most 0 of (a);"), 64);
        sentence(5, "SAYING: TERM { or TERM }. TERM: PART { and PART }");
        due("and binds more than or", lineWorlds("must a or b and c;"), 80);
        due("and binds more than or", lineWorlds("must a and b or c;"), 80);
        due("not binds most", lineWorlds("must not a and b;"), 32);
        due("not of a SAYING", lineWorlds("must not(a and b);"), 96);
    }

    /** The word with one letter more, less or another one is not the word. */
    private static void otherLetters(String how, String ahead, String word, String behind) {
        for (int i = 0; i < word.length(); i++) {
            String start = word.substring(0, i);
            String end = word.substring(i + 1);
            otherWord(how, ahead, start + (char) (word.charAt(i) + 1) + end, behind);
            otherWord(how, ahead, start + (char) ('a' + (word.charAt(i) - 'a' + 13) % 26) + end, behind);
            otherWord(how, ahead, start + end, behind);
        }
        otherWord(how, ahead, word + "s", behind);
        otherWord(how, ahead, "s" + word, behind);
        otherWord(how, ahead, word.toUpperCase(), behind);
    }

    private static void otherWord(String how, String ahead, String word, String behind) {
        WishRoom room = under("must a;");
        String text = ahead + word + behind;
        int fault = how.equals("law") ? law(room, text) : wish(room, 0, text);
        due(how + " '" + text + "'", fault, 1 + 16L * ahead.length());
    }

    /** Each token is tried where the text has come to: one that can't stand there is told at its place by its kind. */
    private static void tryTokens(String how, String ahead, String fits, String four, String three, String five) {
        for (String token : TOKENS) {
            WishRoom room = under("must a; may b;");
            int fault;
            if (how.equals("ground")) {
                wish(room, 0, "strike 0;");
                fault = ground(room, 0, ahead + token);
            } else {
                fault = how.equals("law") ? law(room, ahead + token) : wish(room, 0, ahead + token);
            }
            String call = how + " '" + ahead + token + "'";
            if (isOneOf(token, fits)) {
                due(call + " fits there", fault == 0 || placeOf(fault) > ahead.length(), true);
                due(call + " is whole", fault == 0, token.isEmpty() || token.equals(";"));
            } else {
                int kind = isOneOf(token, four) ? 4 : isOneOf(token, three) ? 3 : isOneOf(token, five) ? 5 : 1;
                due(call, fault, kind + 16L * ahead.length());
            }
            due("TAPE behind " + call, room.count(7), 0);
        }
    }

    private static boolean isOneOf(String token, String row) {
        return !row.equals("-") && ("|" + row + "|").contains("|" + token + "|");
    }

    private static void lawGrammar() {
        String small = "0|00|007|7";
        String great = "8|008|11|12|999";
        sentence(5, "1 it is none, or can't stand there");
        tryTokens("law", "", "must|may|", "-", "-", "-");
        tryTokens("law", "must ", PARTS, "-", "-", "-");
        tryTokens("law", "may ", PARTS, "-", "-", "-");
        tryTokens("law", "must a ", "or|and|;", "-", "-", "-");
        tryTokens("law", "must true ", "or|and|;", "-", "-", "-");
        tryTokens("law", "must a or ", PARTS, "-", "-", "-");
        tryTokens("law", "must a and ", PARTS, "-", "-", "-");
        tryTokens("law", "must not ", PARTS, "-", "-", "-");
        tryTokens("law", "must not a ", "or|and|;", "-", "-", "-");
        tryTokens("law", "must ( ", PARTS, "-", "-", "-");
        tryTokens("law", "must (a ", "or|and|)", "-", "-", "-");
        tryTokens("law", "must (a) ", "or|and|;", "-", "-", "-");
        tryTokens("law", "must most 1 ", "of", "-", "-", "-");
        tryTokens("law", "must most 1 of ", "(", "-", "-", "-");
        tryTokens("law", "must most 1 of ( ", "a|b|g", "-", "-", "-");
        tryTokens("law", "must most 1 of (a) ", "or|and|;", "-", "-", "-");
        tryTokens("law", "must a; ", "must|may|", "-", "-", "-");
        sentence(5, "3 an ATOM that is told in these ATOMS");
        tryTokens("law", "must most 1 of (b ", "a|g|)", "-", "b", "-");
        tryTokens("law", "must least 1 of (b g c ", "a|)", "-", "b|g", "-");
        tryTokens("law", "must least 1 of (a b c d e f g ", ")", "-", "a|b|g", "-");
        sentence(5, "4 a NUMBER that is not as told");
        tryTokens("law", "must most ", small, great, "-", "-");
        tryTokens("law", "must least ", small, great, "-", "-");
        sentence(5, "5 one too many: the word must, may of a 13th LINE");
        tryTokens("law", "may a;".repeat(11), "must|may|", "-", "-", "-");
        tryTokens("law", "may a;".repeat(12), "", "-", "-", "must|may");
        sentence(5, "5 one too many: .. not, or a PART, within 6 others");
        tryTokens("law", "must not not not not not not ", "-", "-", "-", PARTS);
        tryTokens("law", "must ((((( ", PARTS, "-", "-", "-");
        tryTokens("law", "must (((((( ", "-", "-", "-", PARTS);
        tryTokens("law", "must not(not(a or not(", "-", "-", "-", PARTS);
        sentence(5, "FAULTS, kind + 16 * the place (from 0) of a token, the end being one at the text's length");
        due("the end of nothing", law(new WishRoom(), "must"), 1 + 16 * 4);
        due("the end behind blanks", law(new WishRoom(), "must  \n"), 1 + 16 * 7);
        due("place 0", law(new WishRoom(), ";"), 1);
        due("place 999", law(new WishRoom(), " ".repeat(999) + "!"), 1 + 16 * 999);
        due("place 1000", law(new WishRoom(), " ".repeat(996) + "must a;"), 1 + 16 * 1000);
        sentence(5, "of the first token from the left that is wrong");
        due("two that can't stand there", law(new WishRoom(), "must or and;"), 1 + 16 * 5);
        due("a number, then an atom", law(new WishRoom(), "must most 8 of (a a);"), 4 + 16 * 10);
        due("an atom, then a number", law(new WishRoom(), "must most 1 of (a a) or most 9 of (b);"), 3 + 16 * 18);
        due("an atom, then what is none", law(new WishRoom(), "must most 1 of (a a) =;"), 3 + 16 * 18);
        due("too deep, then a 13th LINE", law(new WishRoom(), "may a;".repeat(11) + "may not not not not not not a; may b;"),
            5 + 16 * 94);
        due("a 13th LINE, then what is none", law(new WishRoom(), "may a;".repeat(12) + "may ="), 5 + 16 * 72);
    }

    private static void lawDepth() {
        sentence(5, "no PART lies within 6 of not and ( )");
        String[] inmost = {"a", "g", "true", "false", "most 1 of (a b)", "least 2 of (a b c)"};
        for (int length = 0; length <= 7; length++) {
            for (int mix = 0; mix < 1 << length; mix++) {
                depthOf(length, mix, inmost[mix % inmost.length]);
            }
        }
        reading(5, "they count only where they lie one within the other");
        due("side by side", law(new WishRoom(), "must (a) and (b) and (c) and (d) and (e) and (f) and (g) and (a);"), 0);
        due("nots side by side", law(new WishRoom(), "must not a or not b or not c or not d or not e or not f or not g;"), 0);
        due("up and down", law(new WishRoom(), "must (((((a))))) and (((((b))))) and not not not not not c;"), 0);
        due("up, down and too far", law(new WishRoom(), "must (((((a))))) and ((((((b))))));"), 5 + 16 * 27);
        due("the ( ) of most is none of them", law(new WishRoom(), "must not not not not not most 1 of (a b);"), 0);
        due("the next LINE begins anew", law(new WishRoom(), "must (((((a))))); must (((((b)))));"), 0);
    }

    private static void depthOf(int length, int mix, String inmost) {
        StringBuilder text = new StringBuilder("must ");
        StringBuilder behind = new StringBuilder();
        int place = 0;
        int nots = 0;
        for (int i = 0; i < length; i++) {
            place = i == 6 ? text.length() : place;
            boolean not = (mix >> i & 1) == 1;
            nots += not ? 1 : 0;
            text.append(not ? "not " : "( ");
            behind.append(not ? "" : " )");
        }
        place = length == 6 ? text.length() : place;
        text.append(inmost).append(behind).append(";");
        WishRoom room = new WishRoom();
        due("law " + text, law(room, text.toString()), length < 6 ? 0 : 5 + 16L * place);
        if (length < 6) {
            int plain = lineWorlds("must " + inmost + ";");
            due("worlds of " + text, room.line(0, 1), nots % 2 == 0 ? plain : 128 - plain);
        }
    }

    private static void lawLines() {
        sentence(5, "LAW: any number of LINES, 12 at most");
        for (int number = 0; number <= 14; number++) {
            WishRoom room = under("must g;");
            int fault = law(room, "may a;".repeat(number));
            due(number + " LINES", fault, number <= 12 ? 0 : 5 + 16 * 72);
            due("LINES there", room.rule(0), number <= 12 ? number : 1);
        }
        due("12 and anything else", law(new WishRoom(), "must a;".repeat(12) + ";"), 1 + 16 * 84);
        due("12 and blanks", law(new WishRoom(), "must a;".repeat(12) + " \n "), 0);
        sentence(5, "LINE: must SAYING ; or may SAYING ;");
        WishRoom room = under("must a and b and c and d and e and f and g; may false; may true; must true;");
        int[] kinds = {0, 1, 1, 0};
        int[] worlds = {1, 0, 128, 128};
        for (int line = 0; line < 4; line++) {
            due("line(" + line + ", 0)", room.line(line, 0), kinds[line]);
            due("line(" + line + ", 1)", room.line(line, 1), worlds[line]);
        }
    }

    private static WishRoom fullRoom() {
        WishRoom room = under("must a; may b;", "strike 0;", "keep 0;", "strike 0;");
        ground(room, 0, "true;");
        ground(room, 1, "a;");
        room.world(1);
        room.world(0);
        room.house(0, 6);
        room.days(3);
        room.withdraw(1);
        yes(room, 0, 4);
        return room;
    }

    private static void lawGone() {
        sentence(5, "or its FAULT (all stays then)");
        WishRoom room = fullRoom();
        int[] counts = {3, 3, 3, 2, 1, 2, 2, 0, 1, 2};
        due("a FAULT in the last LINE", law(room, "must c; may d; must e"), 1 + 16 * 21);
        for (int what = 0; what < 10; what++) {
            due("count(" + what + ")", room.count(what), counts[what]);
        }
        due("LINES", room.rule(0), 2);
        due("the first LINE", room.allowed(4), 0);
        due("the first LINE", room.allowed(1), 1);
        due("VOTES", room.votes(3), 1);
        due("HOUSES", room.group(0, 1), 2);
        due("GROUNDS", room.held(1, 2), 1);
        sentence(5, "A LAW without a FAULT is the LAW from then on; all WISHES, GROUNDS, GROUPS, VOTES are gone then");
        for (String text : new String[] {"", "must a; may b;"}) {
            room = fullRoom();
            due("GROUPS ahead", room.count(4), 1);
            due("law " + text, law(room, text), 0);
            for (int what : new int[] {2, 3, 4, 8, 9}) {
                due("count(" + what + ")", room.count(what), 0);
            }
            due("look(0, 1)", room.look(0, 1), -1);
            due("held(0, 0)", room.held(0, 0), -1);
            due("group(0, 0)", room.group(0, 0), -1);
            due("withdraw(0)", room.withdraw(0), false);
            due("ground(0)", ground(room, 0, "a;"), -1);
            due("30 WISHES can be told again", wish(room, 0, "add must c;"), 0);
            due("its number is 0", room.look(0, 1), 3);
            due("the first VOTES are gone", room.votes(1), 0);
            due("no HOUSE votes yes", room.favour(0, 0), 0);
            due("a WISH of an old number is not withdrawn", room.withdraw(0), true);
        }
        reading(5, "VOTES are gone: of each HOUSE for each GROUP");
        for (int house = 0; house < 7; house++) {
            for (int group = 0; group < 6; group++) {
                room = forbidding(6);
                yes(room, group, 7);
                law(room, "");
                for (int other = 0; other < 3; other++) {
                    room.vote((house + 1 + other) % 7, group, true);
                }
                for (int i = 0; i <= group; i++) {
                    wish(room, i, "add may " + (char) ('a' + i) + ";");
                }
                due("three votes for GROUP " + group, room.votes(3), 0);
                room.vote(house, group, true);
                due("four votes for GROUP " + group, room.votes(3), 1 << group);
            }
        }
        sentence(5, "(CASES, PERSONS stay)");
        room = fullRoom();
        law(room, "must c;");
        due("CASES", room.count(5), 2);
        due("NOW", room.count(0), 3);
        wish(room, 0, "strike 0;");
        wish(room, 1, "strike 0;");
        due("HOUSES", room.group(0, 1), 2);
        room.view(1);
        law(room, "must d;");
        due("THE VIEW", room.count(1), 1);
        due("CASES in THE VIEW", room.count(6), 2);
    }

    // ---- promise 6

    private static void wish() {
        sentence(6, "PERSONS 0 to 99");
        WishRoom room = under("must a;");
        due("person 0", wish(room, 0, "strike 0;"), 0);
        due("person 99", wish(room, 99, "strike 0;"), 0);
        due("its person", room.look(1, 3), 99);
        sentence(6, "-1: no such PERSON .. (the TAPE is empty)");
        for (int person : new int[] {100, 101, 127, 128, 199}) {
            due("person " + person, wish(room, person, "strike 0;"), -1);
            due("TAPE", room.count(7), 0);
        }
        for (int person : FAR) {
            due("person " + person, wish(room, person, "strike 0;"), -1);
            due("TAPE", room.count(7), 0);
        }
        due("a FAULT is not looked at then", wish(room, 100, "strike 9;"), -1);
        due("WISHES", room.count(2), 2);
        sentence(6, "WISHES, 30 at most .. -1: .. 30 are there (the TAPE is empty)");
        room = under("must a;");
        for (int i = 0; i < 30; i++) {
            due("wish " + i, wish(room, 0, "add must b;"), 0);
        }
        due("the 31st", wish(room, 0, "add must b;"), -1);
        due("TAPE", room.count(7), 0);
        due("the 31st with a FAULT", wish(room, 0, "add must"), -1);
        due("TAPE", room.count(7), 0);
        due("WISHES", room.count(2), 30);
        room.withdraw(0);
        room.withdraw(29);
        due("WITHDRAWN ones are there, too", wish(room, 0, "add must b;"), -1);
        due("one of the 30th", room.look(29, 1), 3);
        due("none of the 31st", room.look(30, 1), -1);
        law(room, "must a;");
        due("behind a new LAW", wish(room, 0, "strike 0;"), 0);
        sentence(6, "what reads it takes it: it is empty then");
        tell(room, "strike 0;");
        room.wish(0);
        due("TAPE", room.count(7), 0);
        tell(room, "strike");
        due("a FAULT", room.wish(0), 1 + 16 * 6);
        due("TAPE", room.count(7), 0);
        due("nothing is no WISH", room.wish(0), 1);
        due("blanks are no WISH", wish(room, 0, "  "), 1 + 16 * 2);
        due("WISHES", room.count(2), 2);
        sentence(6, "told on the DAY NOW");
        room = under("must a;");
        room.days(4);
        room.view(2);
        wish(room, 0, "strike 0;");
        due("not in THE VIEW of 2", room.count(3), 0);
        room.view(3);
        due("not in THE VIEW of 3", room.count(3), 0);
        room.view(4);
        due("in THE VIEW of 4", room.count(3), 1);
    }

    private static void wishGrammar() {
        String great = "7|007|8|008|11|12|999";
        sentence(6, "WISH: strike N ; or keep N ; or change N to LINE or add LINE");
        tryTokens("wish", "", "strike|keep|change|add", "-", "-", "-");
        tryTokens("wish", "strike 0 ", ";", "-", "-", "-");
        tryTokens("wish", "keep 1 ", ";", "-", "-", "-");
        tryTokens("wish", "change 0 ", "to", "-", "-", "-");
        tryTokens("wish", "change 0 to ", "must|may", "-", "-", "-");
        tryTokens("wish", "add ", "must|may", "-", "-", "-");
        tryTokens("wish", "add may ", PARTS, "-", "-", "-");
        tryTokens("wish", "change 1 to must a ", "or|and|;", "-", "-", "-");
        sentence(6, "N: a LINE of the LAW (from 0) .. 4 a NUMBER that is not as told (a LINE that is none, too)");
        for (String verb : new String[] {"strike ", "keep ", "change "}) {
            tryTokens("wish", verb, "0|00", great, "-", "-");
            WishRoom room = under("may a;".repeat(12));
            String end = verb.equals("change ") ? " to must a;" : ";";
            due(verb + "11", wish(room, 0, verb + "11" + end), 0);
            due(verb + "12", wish(room, 0, verb + "12" + end), 4 + 16L * verb.length());
            due(verb + "011", wish(room, 0, verb + "011" + end), 0);
            due(verb + "0011", wish(room, 0, verb + "0011" + end), 1 + 16L * verb.length());
            law(room, "may a;");
            due(verb + "0 of one", wish(room, 0, verb + "0" + end), 0);
            due(verb + "1 of one", wish(room, 0, verb + "1" + end), 4 + 16L * verb.length());
            law(room, "");
            due(verb + "0 of none", wish(room, 0, verb + "0" + end), 4 + 16L * verb.length());
            due("WISHES", room.count(2), 0);
        }
        WishRoom room = under("must a;");
        wish(room, 0, "add must b;");
        due("a LINE that a WISH adds is none of the LAW", wish(room, 0, "strike 1;"), 4 + 16 * 7);
        sentence(6, "(anything behind a WISH .. too)");
        tryTokens("wish", "strike 0; ", "", "-", "-", "-");
        tryTokens("wish", "keep 0; ", "", "-", "-", "-");
        tryTokens("wish", "change 0 to must a; ", "", "-", "-", "-");
        tryTokens("wish", "add may a; ", "", "-", "-", "-");
        reading(6, "FAULTS .. 3, 4, 5 in the LINE of a WISH");
        tryTokens("wish", "add must most 1 of (b ", "a|g|)", "-", "b", "-");
        tryTokens("wish", "add must most ", "0|00|007|7", "8|008|11|12|999", "-", "-");
        tryTokens("wish", "add must not not not not not not ", "-", "-", "-", PARTS);
        tryTokens("wish", "change 0 to may (((((( ", "-", "-", "-", PARTS);
        reading(6, "must, may of a 13th LINE is of a LAW's text: a WISH may add to 12");
        room = under("may a;".repeat(12));
        due("add", wish(room, 0, "add must b;"), 0);
        due("LINES of the DRAFT", room.draft(0, 2), 13);
        due("LINES of the LAW", room.rule(0), 12);
    }

    // ---- promise 7

    private static void withdraw() {
        sentence(7, "A WISH is WITHDRAWN: true; false: none such");
        WishRoom room = under("must a;", "strike 0;");
        due("withdraw(1)", room.withdraw(1), false);
        due("withdraw(29)", room.withdraw(29), false);
        due("withdraw(30)", room.withdraw(30), false);
        for (int wish : FAR) {
            due("withdraw(" + wish + ")", room.withdraw(wish), false);
        }
        due("WITHDRAWN", room.count(8), 0);
        due("withdraw(0)", room.withdraw(0), true);
        due("WITHDRAWN", room.count(8), 1);
        sentence(7, "false: .. it is .. one may be WITHDRAWN on a DAY (NOW), once");
        due("withdraw(0) again", room.withdraw(0), false);
        room.days(1);
        due("withdraw(0) on another DAY", room.withdraw(0), false);
        room.view(0);
        due("withdraw(0) in another VIEW", room.withdraw(0), false);
        room = under("must a;", "strike 0;");
        room.days(2);
        room.withdraw(0);
        room.days(5);
        room.withdraw(0);
        room.view(3);
        due("the first DAY is the one", room.count(3), 0);
        room.view(1);
        due("THE VIEW ahead of it", room.count(3), 1);
        due("a WISH that THE VIEW still has is WITHDRAWN", room.withdraw(0), false);
        reading(7, "on a DAY (NOW), not on THE VIEW");
        room = under("must a;", "strike 0;");
        room.days(6);
        room.view(2);
        due("withdraw(0)", room.withdraw(0), true);
        due("it is in THE VIEW of 2", room.look(0, 0), 0);
        room.view(5);
        due("it is in THE VIEW of 5", room.look(0, 0), 0);
        room.view(6);
        due("it is not in THE VIEW of 6", room.look(0, 0), -1);
        reading(7, "a WISH that THE VIEW has not yet may be WITHDRAWN");
        room = under("must a;");
        room.days(3);
        wish(room, 0, "strike 0;");
        room.view(1);
        due("withdraw(0)", room.withdraw(0), true);
        room.view(3);
        due("told and WITHDRAWN on one DAY: in no VIEW", room.look(0, 0), -1);
        room.view(2);
        due("in no VIEW", room.look(0, 0), -1);
        due("WISHES", room.count(2), 1);
    }

    // ---- promise 8

    private static void house() {
        sentence(8, "PERSONS 0 to 99 are of a HOUSE (0 to 6; 0 at first)");
        WishRoom room = under("must a;");
        for (int person = 0; person < 7; person++) {
            wish(room, 14 * person, "strike 0;");
        }
        due("all of HOUSE 0", room.group(0, 1), 1);
        for (int house = 1; house < 7; house++) {
            due("house", room.house(14 * house, house), true);
            due("HOUSES", room.group(0, 1), house + 1);
        }
        due("into HOUSE 0 again", room.house(84, 0), true);
        due("HOUSES", room.group(0, 1), 6);
        room = under("must a;");
        wish(room, 0, "strike 0;");
        wish(room, 99, "strike 0;");
        due("house(99, 6)", room.house(99, 6), true);
        due("HOUSES", room.group(0, 1), 2);
        due("house(0, 6)", room.house(0, 6), true);
        due("HOUSES", room.group(0, 1), 1);
        sentence(8, "false: none such");
        due("house(100, 0)", room.house(100, 0), false);
        due("house(0, 7)", room.house(0, 7), false);
        due("house(100, 7)", room.house(100, 7), false);
        for (int far : FAR) {
            due("house(" + far + ", 0)", room.house(far, 0), false);
            due("house(0, " + far + ")", room.house(0, far), false);
            due("house(" + far + ", " + far + ")", room.house(far, far), false);
        }
        room.house(99, 5);
        due("HOUSES: a refused call changes nothing", room.group(0, 1), 2);
        room.house(99, -1);
        room.house(99, 7);
        due("HOUSES: a refused call changes nothing", room.group(0, 1), 2);
    }

    // ---- promise 9

    private static void allowed() {
        sentence(9, "a WORLD is a number 0 to 127 .. NONE: none such");
        WishRoom room = under("must true;");
        due("allowed(0)", room.allowed(0), 1);
        due("allowed(127)", room.allowed(127), 1);
        due("allowed(128)", room.allowed(128), -1);
        due("allowed(129)", room.allowed(129), -1);
        for (int world : FAR) {
            due("allowed(" + world + ")", room.allowed(world), -1);
        }
        sentence(9, "ALLOWED are the WORLDS in which the SAYINGS of all its must LINES are so");
        for (int only : new int[] {0, 1, 31, 32, 63, 64, 95, 126, 127}) {
            room = under("must " + worldText(only) + ";");
            for (int world = 0; world < 128; world++) {
                due("allowed(" + world + ")", room.allowed(world), world == only ? 1 : 0);
            }
        }
        room = under("must a; must b; may not a; may false; must g;");
        due("not all", room.allowed(3), 0);
        due("not all", room.allowed(66), 0);
        due("all", room.allowed(67), 1);
        room = under("may false;");
        due("a may forbids nothing", room.allowed(5), 1);
        room = under("must false;");
        due("none is", room.allowed(0), 0);
        due("none is", room.allowed(127), 0);
    }

    // ---- promise 10

    private static void rule(String law, int worlds, int kind, int line) {
        WishRoom room = under(law);
        due(law + ", WORLDS", room.rule(1), worlds);
        due(law + ", kind", room.rule(2), kind);
        due(law + ", LINE", room.rule(3), line);
    }

    private static void rule() {
        sentence(10, "what 0: LINES");
        due("none", under("").rule(0), 0);
        due("12", under("may a;".repeat(12)).rule(0), 12);
        sentence(10, "It QUARRELS if none is ALLOWED (kind 2)");
        rule("must a; must not a;", 0, 2, -1);
        rule("must false;", 0, 2, -1);
        rule("may false; must false; may a;", 0, 2, -1);
        rule("must " + ZERO_WORLD + ";", 1, 0, -1);
        rule("must " + worldText(127) + ";", 1, 0, -1);
        sentence(10, "else if some may LINE has no ALLOWED WORLD in which its SAYING is so (kind 3, the first such LINE)");
        rule("may false;", 128, 3, 0);
        rule("may a; must not a;", 64, 3, 0);
        rule("must not a; may b; may a; may false;", 64, 3, 2);
        rule("may b;".repeat(11) + "may false;", 128, 3, 11);
        rule("may true; must a; may a;", 64, 0, -1);
        rule("must " + worldText(64) + "; may g; may not a; may f;", 1, 3, 3);
        rule("must g; may not g;", 64, 3, 1);
        rule("must not g; may g;", 64, 3, 1);
        sentence(10, "NONE: no such LINE, what");
        WishRoom room = under("may false;");
        due("rule(4)", room.rule(4), -1);
        for (int what : FAR) {
            due("rule(" + what + ")", room.rule(what), -1);
        }
    }

    // ---- promise 11

    private static void line() {
        sentence(11, "NONE: none such");
        WishRoom room = under("must a;");
        due("line(0, 0)", room.line(0, 0), 0);
        due("line(1, 0)", room.line(1, 0), -1);
        due("line(1, 1)", room.line(1, 1), -1);
        due("line(0, 2)", room.line(0, 2), -1);
        for (int far : FAR) {
            due("line(" + far + ", 0)", room.line(far, 0), -1);
            due("line(0, " + far + ")", room.line(0, far), -1);
        }
        wish(room, 0, "add must b;");
        due("a WISH's LINE is none of the LAW", room.line(1, 0), -1);
        due("a WISH's LINE is none of the LAW", room.line(12, 0), -1);
        room = under("may a;".repeat(11) + "must not g;");
        due("line(11, 0)", room.line(11, 0), 0);
        due("line(11, 1)", room.line(11, 1), 64);
        due("line(12, 0)", room.line(12, 0), -1);
        law(room, "may b;");
        due("a LINE of the LAW that was", room.line(1, 0), -1);
        sentence(11, "in how many WORLDS its SAYING is so");
        room = under("must false; may true; must " + worldText(127) + "; may not(" + ZERO_WORLD + ");");
        int[] want = {0, 128, 1, 127};
        for (int line = 0; line < 4; line++) {
            due("line(" + line + ", 1)", room.line(line, 1), want[line]);
            due("line(" + line + ", 0)", room.line(line, 0), line % 2);
        }
    }

    // ---- promise 12

    private static void look() {
        sentence(12, "what 0: its GROUP (NONE: not in THE VIEW)");
        WishRoom room = under("must a;", "strike 0;");
        room.days(2);
        wish(room, 1, "add must b;");
        room.days(2);
        room.withdraw(0);
        int[][] want = {{0, -1}, {0, -1}, {0, 1}, {0, 1}, {-1, 0}};
        for (int day = 0; day < 5; day++) {
            room.view(day);
            due("look(0, 0) in THE VIEW of " + day, room.look(0, 0), want[day][0]);
            due("look(1, 0) in THE VIEW of " + day, room.look(1, 0), want[day][1]);
        }
        sentence(12, "2: its LINE (NONE of add)");
        room = under("may a;".repeat(12), "strike 11;", "keep 0;", "change 11 to must b;", "add must b;");
        int[] lines = {11, 0, 11, -1};
        for (int wish = 0; wish < 4; wish++) {
            due("look(" + wish + ", 2)", room.look(wish, 2), lines[wish]);
            due("look(" + wish + ", 1)", room.look(wish, 1), wish);
        }
        sentence(12, "NONE: none such");
        due("look(0, 4)", room.look(0, 4), -1);
        for (int what = 0; what < 4; what++) {
            due("look(4, " + what + ")", room.look(4, what), -1);
            due("look(30, " + what + ")", room.look(30, what), -1);
        }
        for (int far : FAR) {
            due("look(" + far + ", 1)", room.look(far, 1), -1);
            due("look(" + far + ", 0)", room.look(far, 0), -1);
            due("look(0, " + far + ")", room.look(0, far), -1);
        }
        room = forbidding(30);
        due("the GROUP of the last WISH", room.look(29, 0), 29);
        due("its PERSON", room.look(29, 3), 29);
        due("one behind it", room.look(30, 0), -1);
    }

    // ---- promise 13

    private static void ground() {
        sentence(13, "-1: no such WISH .. (the TAPE is empty)");
        WishRoom room = under("must a;", "strike 0;");
        due("ground(1)", ground(room, 1, "a;"), -1);
        due("TAPE", room.count(7), 0);
        for (int wish : FAR) {
            due("ground(" + wish + ")", ground(room, wish, "a;"), -1);
            due("TAPE", room.count(7), 0);
        }
        due("a FAULT is not looked at then", ground(room, 1, "a"), -1);
        due("GROUNDS", room.count(9), 0);
        due("before any WISH", ground(new WishRoom(), 0, "a;"), -1);
        room = forbidding(30);
        due("ground(30)", ground(room, 30, "a;"), -1);
        due("ground(29)", ground(room, 29, "a;"), 0);
        due("its WISH", room.held(0, 2), 29);
        sentence(13, "GROUNDS, 20 at most .. -1: .. 20 are there (the TAPE is empty)");
        room = under("must a;", "strike 0;", "keep 0;");
        for (int i = 0; i < 20; i++) {
            due("ground " + i, ground(room, i % 2, "a;"), 0);
        }
        due("the 21st", ground(room, 0, "a;"), -1);
        due("TAPE", room.count(7), 0);
        due("the 21st of another WISH", ground(room, 1, "a;"), -1);
        due("the 21st with a FAULT", ground(room, 0, "="), -1);
        due("TAPE", room.count(7), 0);
        due("GROUNDS", room.count(9), 20);
        due("the last one's WISH", room.held(19, 2), 1);
        room.withdraw(0);
        due("those of a WITHDRAWN WISH are there, too", ground(room, 1, "a;"), -1);
        law(room, "must a;");
        wish(room, 0, "strike 0;");
        due("behind a new LAW", ground(room, 0, "a;"), 0);
        due("GROUNDS", room.count(9), 1);
        sentence(13, "GROUND: SAYING ;");
        tryTokens("ground", "", PARTS, "-", "-", "-");
        tryTokens("ground", "a ", "or|and|;", "-", "-", "-");
        tryTokens("ground", "(a) and not g ", "or|and|;", "-", "-", "-");
        sentence(13, "(anything behind .. a GROUND, too)");
        tryTokens("ground", "a; ", "", "-", "-", "-");
        reading(13, "FAULTS .. 3, 4, 5 in a GROUND");
        tryTokens("ground", "most 1 of (b ", "a|g|)", "-", "b", "-");
        tryTokens("ground", "least ", "0|00|007|7", "8|008|11|12|999", "-", "-");
        tryTokens("ground", "not not not not not not ", "-", "-", "-", PARTS);
        tryTokens("ground", "((((( ", PARTS, "-", "-", "-");
        sentence(13, "what reads it takes it: it is empty then");
        room = under("must a;", "strike 0;");
        due("a GROUND", ground(room, 0, "a;"), 0);
        due("TAPE", room.count(7), 0);
        due("a FAULT", ground(room, 0, "a"), 1 + 16);
        due("TAPE", room.count(7), 0);
        due("nothing is no GROUND", room.ground(0), 1);
        due("GROUNDS", room.count(9), 1);
    }

    // ---- promise 14

    private static void held() {
        sentence(14, "One is HELD in THE VIEW if there is a CASE");
        WishRoom room = under("must a;", "strike 0;");
        ground(room, 0, "true;");
        ground(room, 0, "false;");
        ground(room, 0, "g;");
        due("no CASE", room.held(0, 0), 0);
        due("no CASE", room.held(1, 0), 0);
        due("no CASE in which it is not so", room.held(1, 1), -1);
        room.days(2);
        room.world(64);
        room.view(1);
        due("no CASE in THE VIEW", room.held(0, 0), 0);
        due("no CASE in THE VIEW", room.held(1, 1), -1);
        room.view(2);
        due("a CASE told on THE VIEW", room.held(0, 0), 1);
        due("not so in it", room.held(1, 0), 0);
        due("not so in it", room.held(1, 1), 0);
        sentence(14, "and its SAYING is so in the WORLDS of all .. 1: the first CASE in THE VIEW in which it is not so");
        room = under("must a;", "strike 0;");
        ground(room, 0, "g;");
        ground(room, 0, "not(" + worldText(127) + ");");
        for (int i = 0; i < 39; i++) {
            room.world(64 + i);
        }
        due("39 of 39", room.held(0, 0), 1);
        due("none", room.held(0, 1), -1);
        room.days(1);
        room.world(63);
        due("not in the 40th", room.held(0, 0), 0);
        due("the 40th", room.held(0, 1), 39);
        due("not so in 127, which is no CASE", room.held(1, 0), 1);
        room.view(0);
        due("the 40th is behind THE VIEW", room.held(0, 0), 1);
        due("the 40th is behind THE VIEW", room.held(0, 1), -1);
        reading(14, "a GROUND of a WISH that is not in THE VIEW answers all the same");
        room.days(1);
        room.withdraw(0);
        room.view(2);
        due("HELD", room.held(1, 0), 1);
        due("its WISH", room.held(1, 2), 0);
        sentence(14, "NONE: none such (1: none)");
        due("held(2, 0)", room.held(2, 0), -1);
        due("held(20, 0)", room.held(20, 0), -1);
        due("held(0, 3)", room.held(0, 3), -1);
        for (int far : FAR) {
            due("held(" + far + ", 0)", room.held(far, 0), -1);
            due("held(" + far + ", 2)", room.held(far, 2), -1);
            due("held(0, " + far + ")", room.held(0, far), -1);
        }
        room = under("must a;", "strike 0;");
        for (int i = 0; i < 20; i++) {
            ground(room, 0, i == 19 ? "a;" : "not a;");
        }
        room.world(1);
        due("held(19, 0)", room.held(19, 0), 1);
        due("held(18, 0)", room.held(18, 0), 0);
        due("held(20, 0)", room.held(20, 0), -1);
    }

    // ---- promise 15

    private static void group() {
        sentence(15, "HANDS: how many PERSONS are in it");
        WishRoom room = under("must a;");
        for (int i = 0; i < 30; i++) {
            wish(room, i < 28 ? 50 + i : i == 28 ? 0 : 99, "strike 0;");
            due("HANDS of " + (i + 1), room.group(0, 0), i + 1);
        }
        due("WISHES", room.group(0, 5), 30);
        due("GROUPS", room.count(4), 1);
        due("HOUSES of 30", room.group(0, 1), 1);
        room.house(99, 6);
        due("HOUSES of 30", room.group(0, 1), 2);
        room = under("must a;");
        for (int i = 0; i < 30; i++) {
            wish(room, 63 + i % 2, "strike 0;");
        }
        due("a PERSON with many WISHES is one", room.group(0, 0), 2);
        due("WISHES", room.group(0, 5), 30);
        sentence(15, "HOUSES likewise");
        for (int house = 0; house < 7; house++) {
            room = under("must a;");
            for (int i = 0; i < 14; i++) {
                room.house(80 + i, Math.min(i % 7, house));
                wish(room, 80 + i, "strike 0;");
            }
            due("HOUSES", room.group(0, 1), house + 1);
        }
        sentence(15, "REACH: in how many WORLDS the LAW by it allows otherwise than the LAW does");
        room = under("must a;", "keep 0;", "strike 0;", "change 0 to must not a;", "add must false;", "add may b;",
            "change 0 to must a or " + ZERO_WORLD + ";", "change 0 to must a and (g or b);");
        int[] reach = {0, 64, 128, 64, 0, 1, 16};
        for (int group = 0; group < 7; group++) {
            due("REACH of " + group, room.group(group, 2), reach[group]);
        }
        sentence(15, "3: GROUNDS that are HELD");
        room = under("must a;", "strike 0;", "strike 0;", "keep 0;");
        for (int i = 0; i < 20; i++) {
            ground(room, i % 2, "a;");
        }
        due("no CASE", room.group(0, 3), 0);
        room.world(1);
        due("all 20", room.group(0, 3), 20);
        due("none", room.group(1, 3), 0);
        room.withdraw(1);
        due("those of its WISHES in THE VIEW", room.group(0, 3), 10);
        room.world(0);
        due("none", room.group(0, 3), 0);
        sentence(15, "NONE: none such");
        for (int what = 0; what < 6; what++) {
            due("group(2, " + what + ")", room.group(2, what), -1);
        }
        due("group(0, 6)", room.group(0, 6), -1);
        for (int far : FAR) {
            due("group(" + far + ", 0)", room.group(far, 0), -1);
            due("group(" + far + ", 5)", room.group(far, 5), -1);
            due("group(0, " + far + ")", room.group(0, far), -1);
        }
        room = forbidding(30);
        due("group(29, 4)", room.group(29, 4), 29);
        due("group(29, 0)", room.group(29, 0), 1);
        due("group(30, 0)", room.group(30, 0), -1);
        room.withdraw(0);
        due("group(29, 0) when one is gone", room.group(29, 0), -1);
        due("group(28, 4)", room.group(28, 4), 29);
        due("group(0, 4)", room.group(0, 4), 1);
    }

    private static void groupSame() {
        sentence(15, "SAME are two WISHES in THE VIEW if both are keep of one LINE");
        WishRoom room = under("must a; must a;", "keep 0;", "keep 1;", "keep 0;");
        due("keep 0", room.look(0, 0), 0);
        due("keep 1 of a LINE that says the same", room.look(1, 0), 1);
        due("keep 0 again", room.look(2, 0), 0);
        sentence(15, "or none is a keep and the LAWS by each alone mean the same");
        room = under("must a; must a;", "keep 0;", "strike 0;", "strike 1;", "add must a;", "change 0 to must a;", "keep 1;");
        int[] want = {0, 1, 1, 1, 1, 2};
        for (int wish = 0; wish < want.length; wish++) {
            due("look(" + wish + ", 0)", room.look(wish, 0), want[wish]);
        }
        sentence(15, "and the may LINES' SAYINGS are so in the same sets of WORLDS (each set once, in whatever order)");
        room = under("may a; may b;", "add may a;", "change 0 to may b;", "strike 0;", "change 1 to may a;", "strike 1;",
            "add may a or " + worldText(64) + ";", "add may b and true;", "add must true;", "add may false;");
        int[] sets = {0, 1, 1, 2, 2, 3, 0, 0, 4};
        for (int wish = 0; wish < sets.length; wish++) {
            due("look(" + wish + ", 0)", room.look(wish, 0), sets[wish]);
        }
        room = under("may a; may b;", "change 0 to may c;", "add must a or not a;");
        due("another set", room.look(0, 0), 0);
        due("the LAW as it is", room.look(1, 0), 1);
        sentence(15, "the same WORLDS are ALLOWED");
        room = under("must a; must b;", "change 0 to must a and c;", "add must c;", "add must not(" + worldText(127) + ");",
            "add must not(" + worldText(3) + ");", "add must not(" + worldText(0) + ");", "add must false;",
            "change 1 to must not a;", "change 1 to may b;", "strike 1;");
        int[] groups = {0, 0, 1, 2, 3, 4, 4, 5, 6};
        for (int wish = 0; wish < groups.length; wish++) {
            due("look(" + wish + ", 0)", room.look(wish, 0), groups[wish]);
        }
        sentence(15, "GROUPS .. numbered by their first WISHES");
        room = under("must a;", "strike 0;", "keep 0;", "strike 0;");
        room.withdraw(0);
        due("the first WISH is another one now", room.look(1, 0), 0);
        due("the GROUP has another number", room.look(2, 0), 1);
        due("its first WISH", room.group(1, 4), 2);
        sentence(15, "What a GROUP does is what its first WISH does");
        room = under("must a; must a;", "strike 0;", "strike 1;", "keep 1;");
        due("it strikes LINE 0 alone", room.clash(0, 1), 0);
        room.withdraw(0);
        due("it strikes LINE 1", room.clash(0, 1), 1);
    }

    // ---- promise 16

    private static void clash() {
        sentence(16, "Two WISHES TOUCH if they are of one LINE and not alike in this");
        WishRoom room = under("must a or b; must c or d;", "keep 0;", "strike 0;", "change 0 to must b;", "change 0 to may b;",
            "keep 1;", "strike 1;", "change 1 to must b;", "add must e;");
        int[] first = {-1, 1, 1, 1, 0, 0, 0, 0};
        due("GROUPS", room.count(4), 8);
        for (int b = 0; b < 8; b++) {
            due("clash(0, " + b + ")", room.clash(0, b), first[b]);
            due("clash(" + b + ", 0)", room.clash(b, 0), first[b]);
        }
        due("strike and change", room.clash(1, 2), 1);
        due("strike and change", room.clash(1, 3), 1);
        due("must and may", room.clash(2, 3), 1);
        due("keep and strike of another LINE", room.clash(0, 5), 0);
        due("keep and change of another LINE", room.clash(0, 6), 0);
        due("keep and strike", room.clash(4, 5), 1);
        due("keep and change", room.clash(4, 6), 1);
        due("what is added touches none", room.clash(1, 7), 0);
        sentence(16, "both change and to what is not the same (must or may, SAYING so in the same WORLDS)");
        room = under("must a;", "change 0 to must b and c;", "change 0 to must not(not b or not c);",
            "change 0 to must b and c and not(" + worldText(127) + ");");
        due("to the same: one GROUP", room.count(4), 2);
        due("one WORLD apart", room.clash(0, 1), 1);
        sentence(16, "else the kind (2, 3) in which the LAW by both QUARRELS; else 0");
        room = under("may a;", "add must not a;", "add must b;", "add must not b;", "add must a;", "add may not b;");
        due("kind 3 of one alone", room.clash(0, 1), 3);
        due("kind 2", room.clash(1, 2), 2);
        due("kind 2 ahead of kind 3", room.clash(0, 3), 2);
        due("kind 3 by what both add", room.clash(1, 4), 3);
        due("none", room.clash(1, 3), 0);
        room = under("must false;", "add may a;", "add may b;", "strike 0;");
        due("the LAW itself", room.clash(0, 1), 2);
        due("one mends it", room.clash(0, 2), 0);
        sentence(16, "NONE: none such, the same");
        due("clash(0, 0)", room.clash(0, 0), -1);
        due("clash(2, 2)", room.clash(2, 2), -1);
        due("clash(0, 3)", room.clash(0, 3), -1);
        due("clash(3, 0)", room.clash(3, 0), -1);
        due("clash(3, 3)", room.clash(3, 3), -1);
        for (int far : FAR) {
            due("clash(" + far + ", 0)", room.clash(far, 0), -1);
            due("clash(0, " + far + ")", room.clash(0, far), -1);
            due("clash(" + far + ", " + far + ")", room.clash(far, far), -1);
        }
        room = thirtyChanges();
        due("clash(28, 29)", room.clash(28, 29), 1);
        due("clash(29, 0)", room.clash(29, 0), 1);
        due("clash(29, 30)", room.clash(29, 30), -1);
        due("clash(29, 29)", room.clash(29, 29), -1);
    }

    // ---- promise 17

    private static void together() {
        sentence(17, "Whether a set of GROUPS (bits, 0 to 29) GO TOGETHER .. NONE: no such set");
        WishRoom room = forbidding(30);
        due("none of them", room.together(0), 1);
        due("the first", room.together(1), 1);
        due("the last", room.together(1 << 29), 1);
        due("all", room.together((1 << 30) - 1), 1);
        due("bit 30", room.together(1 << 30), -1);
        due("bits 29 and 30", room.together(3 << 29), -1);
        due("bit 31", room.together(1 << 31), -1);
        due("all bits", room.together(-1), -1);
        due("greatest", room.together(GREATEST_INT), -1);
        room.withdraw(5);
        due("bit 29 of 29 GROUPS", room.together(1 << 29), -1);
        due("bit 28 of 29 GROUPS", room.together(1 << 28), 1);
        room = new WishRoom();
        due("0 of no GROUP", room.together(0), 1);
        for (int bit = 0; bit < 32; bit++) {
            due("bit " + bit + " of no GROUP", room.together(1 << bit), -1);
        }
        sentence(17, "GROUPS GO TOGETHER if no two TOUCH");
        room = thirtyChanges();
        for (int i = 0; i < 30; i++) {
            due("one", room.together(1 << i), 1);
            due("two", room.together(1 << i | 1 << (i + 1) % 30), 0);
        }
        due("all", room.together((1 << 30) - 1), 0);
        room = under("must a; must b;", "keep 0;", "strike 0;", "keep 1;", "change 1 to may b;");
        int[] want = {1, 1, 1, 0, 1, 1, 1, 0, 1, 1, 1, 0, 0, 0, 0, 0};
        for (int set = 0; set < 16; set++) {
            due("together(" + set + ")", room.together(set), want[set]);
        }
        sentence(17, "and the LAW by all of them does not QUARREL");
        room = noThree();
        for (int set = 0; set < 128; set++) {
            due("together(" + set + ")", room.together(set), Integer.bitCount(set) <= 2 ? 1 : 0);
        }
        due("together(128)", room.together(128), -1);
        room = under("must a; must not a;", "strike 0;", "add must b;");
        int[] mends = {0, 1, 0, 1};
        for (int set = 0; set < 4; set++) {
            due("a LAW that QUARRELS, " + set, room.together(set), mends[set]);
        }
        room = under("may a;", "add must not a;", "strike 0;");
        int[] vain = {1, 0, 1, 1};
        for (int set = 0; set < 4; set++) {
            due("kind 3, " + set, room.together(set), vain[set]);
        }
    }

    // ---- promises 18, 19

    private static void least() {
        sentence(18, "LEAST SETS: sets of 1 to 3 GROUPS that do not GO TOGETHER, each less of them .. do");
        WishRoom room = noThree();
        due("of one", room.least(1), 0);
        due("of two", room.least(2), 0);
        due("of three", room.least(3), 35);
        room = thirtyChanges();
        due("of one", room.least(1), 0);
        due("of two", room.least(2), 435);
        due("of three: two of them do not go", room.least(3), 0);
        room = under("", "add must false;", "add must a;", "add must not a;", "add may b and not b;");
        due("of one", room.least(1), 2);
        due("of two: not with one that does not go alone", room.least(2), 1);
        due("of three", room.least(3), 0);
        room = under("must most 3 of (a b c d);", "add must a;", "add must b;", "add must c;", "add must d;");
        due("four that can't be taken together are no set of three", room.least(3), 0);
        for (int out = 0; out < 3; out++) {
            String[] wishes = {"change 0 to must b;", "change 0 to must d;", "change 0 to must f;", "add may g;"};
            wishes[out] = "add may a;";
            room = under("must true;", wishes);
            due("one pair of three", room.least(2), 1);
            due("one pair of three", room.leastSet(2, 0), 7 & ~(1 << out));
            due("its three are no LEAST SET", room.least(3), 0);
        }
        sentence(18, "(none: the LAW itself)");
        room = under("must a; must not a;", "add may b;", "strike 0;", "add may not b;", "add must false;");
        for (int n = 1; n <= 3; n++) {
            due("least(" + n + ")", room.least(n), 0);
            due("leastSet(" + n + ", 0)", room.leastSet(n, 0), -1);
        }
        room = under("may false;", "add must b;", "strike 0;");
        due("a LAW that QUARRELS by kind 3", room.least(1), 0);
        sentence(18, "of n (1 to 3) .. NONE: another n");
        due("least(0)", room.least(0), -1);
        due("least(4)", room.least(4), -1);
        for (int n : FAR) {
            due("least(" + n + ")", room.least(n), -1);
        }
        due("least(1) of no GROUP", new WishRoom().least(1), 0);
    }

    private static void leastSet() {
        sentence(19, "The i-th of the LEAST SETS of n GROUPS, as bits, in order by their GROUPS");
        WishRoom room = noThree();
        int i = 0;
        for (int a = 0; a < 7; a++) {
            for (int b = a + 1; b < 7; b++) {
                for (int c = b + 1; c < 7; c++) {
                    due("leastSet(3, " + i + ")", room.leastSet(3, i), 1 << a | 1 << b | 1 << c);
                    i++;
                }
            }
        }
        due("leastSet(3, 35)", room.leastSet(3, 35), -1);
        room = thirtyChanges();
        due("the first", room.leastSet(2, 0), 3);
        due("the last with GROUP 0", room.leastSet(2, 28), 1 | 1 << 29);
        due("the first with GROUP 1", room.leastSet(2, 29), 2 | 4);
        due("the last", room.leastSet(2, 434), 3 << 28);
        due("none behind it", room.leastSet(2, 435), -1);
        room = under("", "add must false;", "add must a;", "add may false;", "add must " + ZERO_WORLD + " and a;");
        due("of one: the first", room.leastSet(1, 0), 1);
        due("of one: the second", room.leastSet(1, 1), 4);
        due("one that says false in other words is of GROUP 0", room.count(4), 3);
        due("of one: no third", room.leastSet(1, 2), -1);
        sentence(19, "NONE: none such");
        room = noThree();
        due("leastSet(0, 0)", room.leastSet(0, 0), -1);
        due("leastSet(4, 0)", room.leastSet(4, 0), -1);
        due("leastSet(1, 0)", room.leastSet(1, 0), -1);
        due("leastSet(2, 0)", room.leastSet(2, 0), -1);
        for (int far : FAR) {
            due("leastSet(3, " + far + ")", room.leastSet(3, far), -1);
            due("leastSet(2, " + far + ")", room.leastSet(2, far), -1);
            due("leastSet(1, " + far + ")", room.leastSet(1, far), -1);
            due("leastSet(" + far + ", 0)", room.leastSet(far, 0), -1);
        }
        room = under("", "add must false;");
        due("leastSet(1, -1)", room.leastSet(1, -1), -1);
        due("leastSet(1, 1)", room.leastSet(1, 1), -1);
    }

    // ---- promise 20

    private static void draft() {
        sentence(20, "of the sets of GROUPS 0 to 11");
        WishRoom room = forbidding(30);
        due("the first 12", room.draft(0, 0), 4095);
        due("their HANDS", room.draft(0, 1), 12);
        due("LINES", room.draft(0, 2), 12);
        due("WORLDS", room.draft(0, 3), 116);
        due("by REACH", room.draft(2, 1), 12);
        room = forbidding(12);
        due("12 GROUPS", room.draft(1, 0), 4095);
        room = forbidding(11);
        due("11 GROUPS", room.draft(1, 0), 2047);
        room = forbidding(13);
        for (int i = 0; i < 10; i++) {
            wish(room, 50 + i, "add must not(" + worldText(12) + ");");
        }
        due("GROUP 12 is none of them, whatever it weighs", room.draft(0, 0), 4095);
        due("sum", room.draft(0, 1), 12);
        sentence(20, "that with the greatest sum");
        room = under("must a;", "keep 0;", "strike 0;", "change 0 to must b;");
        wish(room, 50, "change 0 to must b;");
        due("two HANDS against one", room.draft(0, 0), 4);
        due("sum", room.draft(0, 1), 2);
        room.house(0, 3);
        wish(room, 51, "keep 0;");
        due("two HOUSES against one", room.draft(1, 0), 1);
        due("sum", room.draft(1, 1), 2);
        due("REACH", room.draft(2, 0), 2);
        due("sum", room.draft(2, 1), 64);
        sentence(20, "of equal ones the one with the fewest GROUPS");
        room = under("must a;", "strike 0;", "keep 0;", "add must b or not a;", "add must g or true;");
        wish(room, 10, "strike 0;");
        due("by GROUNDS all sums are 0", room.draft(3, 0), 0);
        due("sum", room.draft(3, 1), 0);
        room = under("must a or b;", "add must not a;", "add must not b;", "add must not(a or b);", "add must a and b;");
        wish(room, 10, "add must a and b;");
        due("one of two HANDS against two of one", room.draft(0, 0), 8);
        due("sum", room.draft(0, 1), 2);
        room = under("must true;", "change 0 to must a;", "change 0 to must b;");
        wish(room, 10, "keep 0;");
        due("a keep reaches nothing: it stays out", room.draft(2, 0), 1);
        sentence(20, "then the least number (bits)");
        due("GROUP 0 and GROUP 1 weigh the same", room.draft(0, 0), 1);
        room = under("must a; must b;", "keep 0;", "strike 0;", "keep 1;", "strike 1;");
        due("of four pairs the least number", room.draft(0, 0), 5);
        room = thirtyChanges();
        due("of twelve the least number", room.draft(0, 0), 1);
        sentence(20, "None if the LAW itself QUARRELS and no set mends it");
        room = under("must a; must not a; must b; must not b;", "change 0 to may e;", "add may c;");
        for (int weight = 0; weight < 4; weight++) {
            for (int what = 0; what < 4; what++) {
                due("draft(" + weight + ", " + what + ")", room.draft(weight, what), -1);
            }
        }
        wish(room, 2, "change 3 to may f;");
        due("two together mend it", room.draft(0, 0), 7);
        due("by GROUNDS the fewest that mend it", room.draft(3, 0), 5);
        due("sum", room.draft(3, 1), 0);
        room = under("must false;");
        due("no GROUP", room.draft(0, 0), -1);
        room = under("may false;");
        due("kind 3", room.draft(0, 0), -1);
        room = under("must true; must false;");
        for (int i = 0; i < 12; i++) {
            wish(room, i, "change 0 to must false or " + worldText(i) + ";");
            wish(room, i, "add may false or " + worldText(i) + ";");
        }
        wish(room, 40, "strike 1;");
        due("GROUPS", room.count(4), 14);
        due("GROUP 13 would mend it but is none of them", room.draft(0, 0), -1);
        due("though it goes", room.together(1 << 13), 1);
        sentence(20, "2: LINES of it, 3: WORLDS that it ALLOWS");
        room = under("must a;".repeat(11) + "may b;");
        due("as the LAW", room.draft(0, 2), 12);
        due("as the LAW", room.draft(0, 3), 64);
        room = under("must a;", "strike 0;");
        due("none is left", room.draft(0, 2), 0);
        due("all WORLDS", room.draft(0, 3), 128);
        room = under("must a;", "change 0 to must " + worldText(127) + ";");
        due("one is changed", room.draft(0, 2), 1);
        due("one WORLD", room.draft(0, 3), 1);
        room = under("may a;".repeat(12));
        for (int i = 0; i < 12; i++) {
            wish(room, i, "add may " + worldText(i) + ";");
        }
        due("12 and 12", room.draft(0, 2), 24);
        sentence(20, "NONE: none such, none");
        due("draft(4, 0)", room.draft(4, 0), -1);
        due("draft(0, 4)", room.draft(0, 4), -1);
        for (int far : FAR) {
            due("draft(" + far + ", 0)", room.draft(far, 0), -1);
            due("draft(0, " + far + ")", room.draft(0, far), -1);
            due("draft(3, " + far + ")", room.draft(3, far), -1);
        }
    }

    // ---- promise 21

    private static void why() {
        sentence(21, "0 its GROUP is in it");
        WishRoom room = under("must a;", "keep 0;", "strike 0;");
        wish(room, 2, "keep 0;");
        due("the first", room.why(0, 0, 0), 0);
        due("the second of its GROUP", room.why(2, 0, 0), 0);
        due("no GROUP is told", room.why(0, 0, 1), -1);
        room = forbidding(13);
        due("GROUP 11", room.why(11, 0, 0), 0);
        sentence(21, "1 its GROUP alone does not GO");
        room = under("must a;", "keep 0;", "add must not a;", "add may not a;", "change 0 to may false;");
        due("kind 2", room.why(1, 0, 0), 1);
        due("kind 2: no GROUP is told", room.why(1, 0, 1), -1);
        due("kind 3", room.why(2, 0, 0), 1);
        due("it would TOUCH, too", room.clash(0, 3), 1);
        due("alone first", room.why(3, 0, 0), 1);
        due("alone first", room.why(3, 0, 1), -1);
        sentence(21, "2 its CLASH with a GROUP of the DRAFT is not 0 (the first such is told)");
        room = under("must a; must b; may c;", "keep 1;", "keep 0;", "keep 2;", "strike 0;", "change 0 to must not b;",
            "strike 2;");
        for (int i = 0; i < 3; i++) {
            wish(room, 20 + i, "keep " + i + ";");
        }
        due("the DRAFT", room.draft(0, 0), 7);
        due("TOUCH", room.why(3, 0, 0), 2);
        due("TOUCH", room.why(3, 0, 1), 1);
        due("TOUCH the last one", room.why(5, 0, 1), 2);
        due("kind 2 with each alone: it does not go alone", room.why(4, 0, 0), 1);
        room = under("must a or b;", "add must a;", "add must b;", "add may not a and not b;", "add must not(a and b);");
        wish(room, 10, "add must a;");
        wish(room, 11, "add must b;");
        due("the DRAFT", room.draft(0, 0), 3);
        due("not alone", room.why(2, 0, 0), 1);
        due("with no one alone, with all of them", room.why(3, 0, 0), 3);
        room = under("", "add must a;", "add must b;", "add must not b;", "add may not a;");
        wish(room, 10, "add must a;");
        wish(room, 11, "add must b;");
        due("kind 2 with the second", room.why(2, 0, 0), 2);
        due("the second is told", room.why(2, 0, 1), 1);
        due("kind 3 with the first", room.why(3, 0, 0), 2);
        due("the first is told", room.why(3, 0, 1), 0);
        sentence(21, "3 it does not GO TOGETHER with all of the DRAFT");
        room = noThree();
        due("the DRAFT", room.draft(0, 0), 3);
        for (int wish = 2; wish < 7; wish++) {
            due("why(" + wish + ", 0, 0)", room.why(wish, 0, 0), 3);
            due("why(" + wish + ", 0, 1)", room.why(wish, 0, 1), -1);
        }
        sentence(21, "4 else");
        room = forbidding(30);
        due("GROUP 12 is looked at by no DRAFT", room.why(12, 0, 0), 4);
        due("GROUP 29", room.why(29, 0, 0), 4);
        due("no GROUP is told", room.why(29, 0, 1), -1);
        due("by GROUNDS it adds nothing", room.why(0, 3, 0), 4);
        room = under("must true;");
        for (int i = 0; i < 12; i++) {
            wish(room, i, "add may " + worldText(i) + ";");
        }
        wish(room, 12, "add must not(" + worldText(11) + ");");
        wish(room, 13, "add must false;");
        wish(room, 14, "add must g or f;");
        due("GROUP 12 clashes with GROUP 11", room.why(12, 0, 0), 2);
        due("GROUP 12 clashes with GROUP 11", room.why(12, 0, 1), 11);
        due("GROUP 13 does not go", room.why(13, 0, 0), 1);
        due("GROUP 14 clashes with the first", room.why(14, 0, 1), 0);
        sentence(21, "NONE: none such, not in THE VIEW, no DRAFT");
        due("why(15, 0, 0)", room.why(15, 0, 0), -1);
        due("why(30, 0, 0)", room.why(30, 0, 0), -1);
        due("why(0, 4, 0)", room.why(0, 4, 0), -1);
        due("why(0, 0, 2)", room.why(0, 0, 2), -1);
        due("why(12, 0, 2)", room.why(12, 0, 2), -1);
        for (int far : FAR) {
            due("why(" + far + ", 0, 0)", room.why(far, 0, 0), -1);
            due("why(0, " + far + ", 0)", room.why(0, far, 0), -1);
            due("why(12, 0, " + far + ")", room.why(12, 0, far), -1);
        }
        room = under("must a;", "strike 0;");
        room.days(1);
        room.withdraw(0);
        wish(room, 1, "keep 0;");
        due("WITHDRAWN", room.why(0, 0, 0), -1);
        due("WITHDRAWN", room.why(0, 0, 1), -1);
        due("in THE VIEW", room.why(1, 0, 0), 0);
        room.view(0);
        due("WITHDRAWN behind THE VIEW", room.why(0, 0, 0), 0);
        due("told behind THE VIEW", room.why(1, 0, 0), -1);
        room = under("must false;", "keep 0;");
        due("no DRAFT", room.why(0, 0, 0), -1);
        due("no DRAFT", room.why(0, 3, 0), -1);
    }

    // ---- promises 22 to 25

    private static void vote() {
        sentence(22, "A HOUSE votes for a GROUP (0 to 5, there or not): true");
        WishRoom room = new WishRoom();
        for (int house = 0; house < 7; house++) {
            for (int group = 0; group < 6; group++) {
                due("vote(" + house + ", " + group + ", true)", room.vote(house, group, true), true);
            }
        }
        for (int group = 0; group < 6; group++) {
            due("no GROUP is there yet", room.votes(3), (1 << group) - 1);
            wish(room, 0, "add must not(" + worldText(group) + ");");
        }
        due("all six", room.votes(3), 63);
        sentence(22, "(no at first)");
        room = forbidding(6);
        due("none is TAKEN", room.votes(1), 0);
        due("a no that is told", room.vote(0, 0, false), true);
        due("none is TAKEN", room.votes(1), 0);
        reading(22, "a vote may be told otherwise");
        yes(room, 5, 4);
        due("yes", room.votes(3), 32);
        due("yes again is one vote", room.vote(0, 5, true), true);
        due("yes", room.votes(3), 32);
        due("no", room.vote(3, 5, false), true);
        due("no", room.votes(3), 0);
        sentence(22, "false: none such");
        yes(room, 0, 3);
        due("vote(7, 0, true)", room.vote(7, 0, true), false);
        due("vote(0, 6, true)", room.vote(0, 6, true), false);
        due("vote(7, 6, true)", room.vote(7, 6, true), false);
        for (int far : FAR) {
            due("vote(" + far + ", 0, true)", room.vote(far, 0, true), false);
            due("vote(0, " + far + ", true)", room.vote(0, far, true), false);
            due("vote(0, " + far + ", false)", room.vote(0, far, false), false);
        }
        due("a refused vote is none", room.votes(3), 0);
        for (int group = 0; group < 6; group++) {
            due("HOUSE 0's vote stands", room.favour(0, 0), 0);
        }
        room.vote(3, 0, true);
        due("the fourth", room.votes(3), 1);
        reading(22, "VOTES are for the number of a GROUP, whichever GROUP has it");
        room = forbidding(3);
        yes(room, 0, 7);
        room.withdraw(0);
        due("GROUP 0 is another one", room.votes(3), 1);
        room.withdraw(1);
        room.withdraw(2);
        due("GROUP 0 is not there", room.votes(3), 0);
    }

    private static void votes() {
        sentence(23, "it is TAKEN if more HOUSES (of the 7) vote yes than no");
        for (int houses = 0; houses <= 7; houses++) {
            WishRoom room = forbidding(6);
            yes(room, 5, houses);
            due(houses + " of 7", room.votes(3), houses >= 4 ? 32 : 0);
            due(houses + " of 7, SURE", room.votes(0), houses >= 4 ? 32 : 0);
            due(houses + " of 7, MAY", room.votes(1), houses >= 4 ? 32 : 0);
        }
        sentence(23, "n: how many there are, 6 at most");
        WishRoom room = new WishRoom();
        due("SURE of none", room.votes(0), 0);
        due("MAY of none", room.votes(1), 0);
        due("RESULTS of none", room.votes(2), 1);
        due("RESULT of none", room.votes(3), 0);
        for (int number = 1; number <= 8; number++) {
            room = forbidding(number);
            for (int group = 0; group < 6; group++) {
                yes(room, group, 7);
            }
            int all = (1 << Math.min(number, 6)) - 1;
            due("SURE of " + number, room.votes(0), all);
            due("MAY of " + number, room.votes(1), all);
            due("RESULTS of " + number, room.votes(2), 1);
            due("RESULT of " + number, room.votes(3), all);
        }
        sentence(23, "and it GOES TOGETHER with those TAKEN");
        room = thirtyChanges();
        for (int group = 0; group < 6; group++) {
            yes(room, group, 4);
        }
        due("SURE", room.votes(0), 0);
        due("MAY", room.votes(1), 63);
        due("RESULTS", room.votes(2), 6);
        due("RESULT", room.votes(3), 1);
        room = noThree();
        for (int group = 0; group < 6; group++) {
            yes(room, group, 4);
        }
        due("SURE of pairs", room.votes(0), 0);
        due("MAY of pairs", room.votes(1), 63);
        due("RESULTS: pairs of six", room.votes(2), 15);
        due("RESULT: the first two", room.votes(3), 3);
        room = under("must false;", "add may a;", "add may b;", "strike 0;");
        for (int group = 0; group < 3; group++) {
            yes(room, group, 4);
        }
        due("a LAW that QUARRELS: SURE", room.votes(0), 4);
        due("MAY", room.votes(1), 7);
        due("RESULTS", room.votes(2), 4);
        due("RESULT", room.votes(3), 4);
        room = under("", "add must false;", "add must a;");
        yes(room, 0, 7);
        yes(room, 1, 4);
        due("one that does not go alone", room.votes(3), 2);
        sentence(23, "NONE: another what");
        due("votes(4)", room.votes(4), -1);
        for (int what : FAR) {
            due("votes(" + what + ")", room.votes(what), -1);
        }
    }

    private static void favour() {
        sentence(24, "over all ORDERS the most of the GROUPS for which it votes yes that are TAKEN, the fewest");
        WishRoom room = forbidding(6);
        due("none is voted for: the most", room.favour(0, 0), 0);
        due("the fewest", room.favour(0, 1), 0);
        for (int group = 0; group < 6; group++) {
            yes(room, group, 4);
        }
        due("all six: the most", room.favour(0, 0), 6);
        due("all six: the fewest", room.favour(3, 1), 6);
        due("a HOUSE that votes no: the most", room.favour(6, 0), 0);
        due("a HOUSE that votes no: the fewest", room.favour(6, 1), 0);
        room = thirtyChanges();
        for (int group = 0; group < 6; group++) {
            yes(room, group, 4);
        }
        room.vote(6, 5, true);
        due("one of them: the most", room.favour(6, 0), 1);
        due("one of them: the fewest", room.favour(6, 1), 0);
        due("its ORDER", room.favour(6, 2), 0501234);
        room.vote(5, 0, true);
        due("GROUP 0's ORDER", room.favour(5, 2), 0012345);
        sentence(24, "the first ORDER with the most (ORDERS by their GROUPS, the first ones first)");
        due("no vote: the first of all", room.favour(4, 2), 0012345);
        room = under("must false;", "add may a;", "add may b;", "add may c;", "add may d;", "add may e;", "strike 0;");
        for (int group = 0; group < 6; group++) {
            yes(room, group, 4);
        }
        due("5 first", room.favour(0, 2), 0501234);
        due("all six", room.favour(0, 0), 6);
        due("only the last", room.favour(0, 1), 1);
        sentence(24, "2: the ORDER (its GROUPS as digits of eight, the first one highest)");
        due("no GROUP", new WishRoom().favour(0, 2), 0);
        due("one GROUP", forbidding(1).favour(0, 2), 0);
        due("two GROUPS", forbidding(2).favour(0, 2), 01);
        due("six GROUPS", forbidding(6).favour(0, 2), 0012345);
        due("seven GROUPS: six of them", forbidding(7).favour(0, 2), 0012345);
        room = under("must false;", "add must a;", "strike 0;");
        yes(room, 0, 4);
        yes(room, 1, 4);
        due("the last ORDER of two", room.favour(0, 2), 010);
        reading(24, "votes for GROUPS that are not there count for nothing");
        room = forbidding(1);
        for (int group = 0; group < 6; group++) {
            yes(room, group, 7);
        }
        due("the most", room.favour(0, 0), 1);
        due("the fewest", room.favour(0, 1), 1);
        sentence(24, "NONE: none such");
        due("favour(6, 0)", room.favour(6, 0), 1);
        due("favour(7, 0)", room.favour(7, 0), -1);
        due("favour(0, 3)", room.favour(0, 3), -1);
        for (int far : FAR) {
            due("favour(" + far + ", 0)", room.favour(far, 0), -1);
            due("favour(" + far + ", 2)", room.favour(far, 2), -1);
            due("favour(0, " + far + ")", room.favour(0, far), -1);
        }
    }

    private static void gain() {
        sentence(25, "it could have more of the GROUPS for which it votes yes TAKEN if it voted otherwise on just one");
        WishRoom room = under("must true;", "change 0 to must a;", "change 0 to must b;", "add must not a;");
        yes(room, 0, 4);
        yes(room, 1, 4);
        yes(room, 2, 4);
        due("without GROUP 0 it has two: more than one", room.gain(0), 0);
        due("it votes yes for none", room.gain(4), -1);
        room.vote(4, 0, true);
        due("with a fifth yes no one alone can turn it", room.gain(0), -1);
        room = under("must true;", "change 0 to must a;", "change 0 to must b;");
        yes(room, 0, 4);
        yes(room, 1, 4);
        due("one for one is no more", room.gain(0), -1);
        room = under("must false;", "add may a;", "strike 0;", "add may b;");
        yes(room, 1, 3);
        yes(room, 2, 4);
        room.vote(6, 2, true);
        due("by a yes for GROUP 1, GROUP 2 is TAKEN", room.gain(6), 1);
        due("HOUSE 0 votes yes for it: a no brings nothing", room.gain(0), -1);
        due("what it gains by is not told", room.votes(3), 0);
        sentence(25, "GAIN: the first GROUP on which it could vote otherwise");
        room = under("must true; must true;", "change 0 to must a;", "change 1 to must b;", "add must not a and c;",
            "add must not a and d;", "add must not b and e;", "add must not b and f;");
        for (int group = 0; group < 6; group++) {
            yes(room, group, 4);
        }
        due("RESULT", room.votes(3), 3);
        due("GROUP 0 as GROUP 1", room.gain(0), 0);
        room.vote(4, 0, true);
        due("GROUP 0 can't be turned: GROUP 1", room.gain(0), 1);
        room = forbidding(6);
        for (int group = 0; group < 5; group++) {
            yes(room, group, 4);
        }
        yes(room, 5, 3);
        room.vote(6, 5, false);
        due("for what it votes no it gains nothing", room.gain(6), -1);
        sentence(25, "in the ORDER 0, 1, ..");
        room = under("must true;", "change 0 to must a;", "change 0 to must b;", "add must not a;");
        yes(room, 0, 4);
        yes(room, 1, 4);
        yes(room, 2, 4);
        due("RESULT", room.votes(3), 1);
        due("another ORDER has two of them", room.favour(3, 0), 2);
        due("GAIN", room.gain(3), 0);
        sentence(25, "6 at most");
        room = under("must true;", "keep 0;", "add must a;", "add must b;", "add must c;", "change 0 to must d;",
            "change 0 to must e;", "add must not e;");
        due("GROUPS", room.count(4), 7);
        yes(room, 5, 4);
        due("GROUP 6 is not put", room.votes(3), 32);
        due("GAIN", room.gain(0), -1);
        sentence(25, "NONE: none, no such HOUSE");
        due("no GROUP", new WishRoom().gain(0), -1);
        room = under("must true;", "change 0 to must a;", "change 0 to must b;", "add must not a;");
        for (int house = 3; house < 7; house++) {
            for (int group = 0; group < 3; group++) {
                room.vote(house, group, true);
            }
        }
        due("gain(6)", room.gain(6), 0);
        due("gain(2)", room.gain(2), -1);
        due("gain(7)", room.gain(7), -1);
        for (int far : FAR) {
            due("gain(" + far + ")", room.gain(far), -1);
        }
    }

    // ---- promises 26 to 28

    private static void world() {
        sentence(26, "A CASE: its number; NONE: no such WORLD");
        WishRoom room = new WishRoom();
        due("world(128)", room.world(128), -1);
        for (int world : FAR) {
            due("world(" + world + ")", room.world(world), -1);
        }
        due("CASES", room.count(5), 0);
        due("world(127)", room.world(127), 0);
        due("world(0)", room.world(0), 1);
        due("world(0) again is another CASE", room.world(0), 2);
        sentence(26, "CASES, 40 at most .. NONE: .. 40 are there");
        for (int i = 3; i < 40; i++) {
            due("case " + i, room.world(i), i);
        }
        due("the 41st", room.world(5), -1);
        due("the 41st", room.world(127), -1);
        due("CASES", room.count(5), 40);
        law(room, "must a;");
        due("behind a new LAW they are there", room.world(5), -1);
        due("CASES", room.count(5), 40);
        sentence(26, "told on the DAY NOW");
        room = new WishRoom();
        room.days(3);
        room.view(1);
        due("world(7)", room.world(7), 0);
        due("not in THE VIEW of 1", room.count(6), 0);
        room.view(2);
        due("not in THE VIEW of 2", room.count(6), 0);
        room.view(3);
        due("in THE VIEW of 3", room.count(6), 1);
        reading(26, "a CASE of a WORLD that the LAW does not ALLOW is one");
        room = under("must false;");
        due("world(9)", room.world(9), 0);
    }

    private static void cases() {
        sentence(27, "how many CASES in THE VIEW are ALLOWED by the LAW and not by the DRAFT, and the other way");
        WishRoom room = under("must a;", "change 0 to must not a;");
        due("no CASE", room.cases(0, 0), 0);
        due("no CASE", room.cases(0, 1), 0);
        for (int i = 0; i < 40; i++) {
            room.world(i < 39 ? 127 : 126);
        }
        due("39 of 40", room.cases(0, 0), 39);
        due("1 of 40", room.cases(0, 1), 1);
        due("the empty DRAFT changes none", room.cases(3, 0), 0);
        due("the empty DRAFT changes none", room.cases(3, 1), 0);
        room = under("must a;", "strike 0;");
        room.days(1);
        room.world(0);
        room.days(1);
        room.world(0);
        int[] want = {0, 1, 2};
        wish(room, 1, "strike 0;");
        for (int day = 0; day < 3; day++) {
            room.view(day);
            due("CASES in THE VIEW of " + day, room.cases(0, 1), want[day]);
            due("CASES in THE VIEW of " + day, room.cases(0, 0), 0);
        }
        room = under("must a;", "strike 0;");
        for (int i = 0; i < 40; i++) {
            room.world(0);
        }
        due("all 40", room.cases(0, 1), 40);
        room = under("must false;", "strike 0;");
        room.world(77);
        due("a LAW that ALLOWS none", room.cases(0, 1), 1);
        sentence(27, "NONE: none such, no DRAFT");
        due("cases(4, 0)", room.cases(4, 0), -1);
        due("cases(0, 2)", room.cases(0, 2), -1);
        for (int far : FAR) {
            due("cases(" + far + ", 0)", room.cases(far, 0), -1);
            due("cases(0, " + far + ")", room.cases(0, far), -1);
        }
        room.withdraw(0);
        for (int weight = 0; weight < 4; weight++) {
            due("no DRAFT", room.cases(weight, 0), -1);
            due("no DRAFT", room.cases(weight, 1), -1);
        }
    }

    private static void blamed() {
        sentence(28, "the first of its GROUPS without which (all others stay) it is not");
        WishRoom room = forbidding(12);
        for (int world = 0; world < 13; world++) {
            room.world(world);
        }
        for (int world = 0; world < 12; world++) {
            due("blamed(" + world + ", 0)", room.blamed(world, 0), world);
        }
        due("not otherwise", room.blamed(12, 0), -1);
        room = under("must a; must a;", "change 0 to must b;", "change 1 to must c;", "add may g;");
        room.world(6);
        room.world(1);
        room.world(3);
        room.world(7);
        room.world(5);
        due("the DRAFT", room.draft(0, 0), 7);
        due("ALLOWED now: without either it is not", room.blamed(0, 0), 0);
        due("forbidden by both: none", room.blamed(1, 0), -1);
        due("forbidden by the second", room.blamed(2, 0), 1);
        due("ALLOWED as it was", room.blamed(3, 0), -1);
        due("forbidden by the first", room.blamed(4, 0), 0);
        sentence(28, "NONE: none such");
        due("blamed(5, 0)", room.blamed(5, 0), -1);
        due("blamed(40, 0)", room.blamed(40, 0), -1);
        due("blamed(0, 4)", room.blamed(0, 4), -1);
        for (int far : FAR) {
            due("blamed(" + far + ", 0)", room.blamed(far, 0), -1);
            due("blamed(0, " + far + ")", room.blamed(0, far), -1);
        }
        room = under("must a;", "strike 0;");
        for (int i = 0; i < 40; i++) {
            room.world(i < 39 ? 1 : 0);
        }
        due("the 40th", room.blamed(39, 0), 0);
        due("the 39th", room.blamed(38, 0), -1);
        due("no 41st", room.blamed(40, 0), -1);
        sentence(28, "NONE: .. not in THE VIEW");
        room = under("must a;", "strike 0;");
        room.days(2);
        room.world(0);
        due("on its DAY", room.blamed(0, 0), 0);
        room.view(1);
        due("the DAY ahead", room.blamed(0, 0), -1);
        room.view(2);
        due("on its DAY", room.blamed(0, 0), 0);
        sentence(28, "NONE: .. no DRAFT, not otherwise, none");
        due("not otherwise by the empty DRAFT", room.blamed(0, 3), -1);
        room = under("must false;", "keep 0;");
        room.world(0);
        due("no DRAFT", room.blamed(0, 0), -1);
        room = under("", "add must a;", "add must b;");
        room.world(0);
        room.world(1);
        due("otherwise, but without each alone it still is", room.blamed(0, 0), -1);
        due("otherwise by the second", room.blamed(1, 0), 1);
    }

    // ---- promises 29 to 31

    private static void idle() {
        sentence(29, "IDLE is a LINE of the LAW without which the LAW means the same");
        WishRoom room = under("must true;");
        due("the only LINE, of all WORLDS", room.idle(0), 1);
        room = under("may true;");
        due("the only may", room.idle(0), 0);
        room = under("must not(" + worldText(127) + ");");
        due("one WORLD less", room.idle(0), 0);
        room = under("must a; must a;");
        due("either of two", room.idle(0), 1);
        due("either of two", room.idle(1), 1);
        room = under("may b; may b and true; may b and a;");
        due("a may told twice", room.idle(0), 1);
        due("a may told twice", room.idle(1), 1);
        due("a may told once", room.idle(2), 0);
        room = under("must false; must a; may a; must not a;");
        int[] want = {1, 1, 0, 1};
        for (int line = 0; line < 4; line++) {
            due("a LAW that QUARRELS, idle(" + line + ")", room.idle(line), want[line]);
        }
        sentence(29, "NONE: none such");
        due("idle(4)", room.idle(4), -1);
        due("idle(12)", room.idle(12), -1);
        for (int line : FAR) {
            due("idle(" + line + ")", room.idle(line), -1);
        }
        room = under("may a;".repeat(11) + "must a or not a;");
        due("idle(11)", room.idle(11), 1);
        due("idle(12)", room.idle(12), -1);
        room = under("may a;".repeat(11) + "must a;");
        due("idle(11)", room.idle(11), 0);
        wish(room, 0, "strike 11;");
        due("no WISH counts", room.idle(11), 0);
    }

    private static void fewest(String law, int number, int bits) {
        WishRoom room = under(law);
        due(law + ", how many", room.fewest(0), number);
        due(law + ", as bits", room.fewest(1), bits);
    }

    private static void fewest() {
        sentence(30, "the least number of LINES of the LAW that mean the same as all");
        fewest("", 0, 0);
        fewest("must true; must a or not a;", 0, 0);
        fewest("must a;", 1, 1);
        fewest("must a; must b; must c; must d; must e; must f; must g; may a; may b; may c; may d; may e;", 12, 4095);
        fewest("must true;".repeat(11) + "must a;", 1, 2048);
        fewest("must a; must b; must a and b;", 1, 4);
        fewest("must a; must not a; may b;", 3, 7);
        fewest("must a; must not a; may b; must false; may b;", 2, 12);
        fewest("must a or b; must a or not b; must b or c; must a;", 2, 12);
        sentence(30, "of as many the least number (bits)");
        fewest("must a;".repeat(12), 1, 1);
        fewest("may a;".repeat(12), 1, 1);
        fewest("must a; must b; must a; must b;", 2, 3);
        fewest("must a or b; must not a or b; must b or c; must not c or b;", 2, 3);
        fewest("may b; must a; may b and b; must a;", 2, 3);
        sentence(30, "NONE for another what");
        WishRoom room = under("must a;");
        due("fewest(2)", room.fewest(2), -1);
        for (int what : FAR) {
            due("fewest(" + what + ")", room.fewest(what), -1);
        }
    }

    private static void beside() {
        sentence(31, "BESIDE: the GROUPS of one DRAFT that another one leaves out");
        WishRoom room = forbidding(14);
        due("all twelve", room.beside(0, 3), 4095);
        due("none", room.beside(3, 0), 0);
        due("the same", room.beside(0, 1), 0);
        for (int weight = 0; weight < 4; weight++) {
            due("one with itself", room.beside(weight, weight), 0);
        }
        due("two empty ones", new WishRoom().beside(0, 2), 0);
        room = under("must a;", "keep 0;", "strike 0;", "add must b;");
        wish(room, 9, "keep 0;");
        due("HANDS beside REACH", room.beside(0, 2), 1);
        due("REACH beside HANDS", room.beside(2, 0), 2);
        sentence(31, "NONE: none such, no DRAFT");
        due("beside(4, 0)", room.beside(4, 0), -1);
        due("beside(0, 4)", room.beside(0, 4), -1);
        due("beside(4, 4)", room.beside(4, 4), -1);
        for (int far : FAR) {
            due("beside(" + far + ", 0)", room.beside(far, 0), -1);
            due("beside(0, " + far + ")", room.beside(0, far), -1);
            due("beside(" + far + ", " + far + ")", room.beside(far, far), -1);
        }
        room = under("must false;", "keep 0;");
        due("no DRAFT", room.beside(0, 1), -1);
        due("no DRAFT", room.beside(2, 2), -1);
    }

    // ---- promise 32

    private static void count() {
        sentence(32, "What 0: NOW, 1: THE VIEW");
        WishRoom room = new WishRoom();
        for (int i = 0; i < 9; i++) {
            room.days(1000);
        }
        room.days(999);
        due("NOW", room.count(0), 9999);
        due("THE VIEW", room.count(1), 9999);
        room.view(0);
        due("NOW", room.count(0), 9999);
        due("THE VIEW", room.count(1), 0);
        sentence(32, "2: WISHES, 3: those in THE VIEW, 4: GROUPS .. 8: WITHDRAWN");
        room = forbidding(30);
        int[] full = {30, 30, 30, 0};
        countWishes(room, full);
        room.days(1);
        for (int wish = 0; wish < 30; wish++) {
            room.withdraw(wish);
        }
        int[] gone = {30, 0, 0, 30};
        countWishes(room, gone);
        room.view(0);
        int[] back = {30, 30, 30, 30};
        countWishes(room, back);
        sentence(32, "5: CASES, 6: those in THE VIEW");
        room = new WishRoom();
        for (int i = 0; i < 39; i++) {
            room.world(0);
        }
        room.days(1);
        room.world(0);
        due("CASES", room.count(5), 40);
        due("those in THE VIEW", room.count(6), 40);
        room.view(0);
        due("CASES", room.count(5), 40);
        due("those in THE VIEW", room.count(6), 39);
        sentence(32, "7: signs on the TAPE");
        room = new WishRoom();
        due("none", room.count(7), 0);
        tell(room, "~".repeat(1100));
        due("1000", room.count(7), 1000);
        sentence(32, "9: GROUNDS");
        room = under("must a;", "strike 0;");
        for (int i = 0; i < 25; i++) {
            due("GROUNDS", room.count(9), Math.min(i, 20));
            ground(room, 0, "a;");
        }
        sentence(32, "NoSuchElementException: another what");
        for (int what = 0; what < 10; what++) {
            due("count(" + what + ") throws", throwsAt(room, what), false);
        }
        due("count(10) throws", throwsAt(room, 10), true);
        for (int what : FAR) {
            due("count(" + what + ") throws", throwsAt(room, what), true);
        }
        due("all is as it was", room.count(9), 20);
    }

    private static void countWishes(WishRoom room, int[] want) {
        due("WISHES", room.count(2), want[0]);
        due("those in THE VIEW", room.count(3), want[1]);
        due("GROUPS", room.count(4), want[2]);
        due("WITHDRAWN", room.count(8), want[3]);
    }

    // ---- answers that hang on what was asked ahead

    private static final int[] CHOOSE_OF_SIX = {1, 6, 15, 20, 15, 6, 1, 1};

    /** A LAW that lets n of the ATOMS be so, WISHES that ask for one each, and all HOUSES but three for all of them. */
    private static void mostOfSeven(WishRoom room, int n) {
        due("law", law(room, "must most " + n + " of (a b c d e f g);"), 0);
        for (int i = 0; i < 7; i++) {
            due("wish", wish(room, i, "add must " + (char) ('a' + i) + ";"), 0);
            yes(room, i, i < 6 ? 4 : 0);
        }
    }

    private static void askOfSeven(WishRoom room, int n) {
        String law = "most " + n + ": ";
        due(law + "GROUPS", room.count(4), n == 0 ? 1 : 7);
        due(law + "least(1)", room.least(1), n == 0 ? 1 : 0);
        due(law + "least(2)", room.least(2), n == 1 ? 21 : 0);
        due(law + "least(3)", room.least(3), n == 2 ? 35 : 0);
        due(law + "leastSet(1, 0)", room.leastSet(1, 0), n == 0 ? 1 : -1);
        due(law + "leastSet(2, 20)", room.leastSet(2, 20), n == 1 ? 32 | 64 : -1);
        due(law + "leastSet(3, 34)", room.leastSet(3, 34), n == 2 ? 16 | 32 | 64 : -1);
        for (int set : new int[] {0, 1, 2, 64, 3, 96, 7, 112, 31, 127}) {
            int want = n == 0 ? (set == 0 ? 1 : set == 1 ? 0 : -1) : Integer.bitCount(set) <= n ? 1 : 0;
            due(law + "together(" + set + ")", room.together(set), want);
        }
        due(law + "draft(0, 0)", room.draft(0, 0), (1 << n) - 1);
        due(law + "draft(0, 1)", room.draft(0, 1), n);
        due(law + "draft(3, 0)", room.draft(3, 0), 0);
        due(law + "SURE", room.votes(0), n >= 6 ? 63 : 0);
        due(law + "MAY", room.votes(1), n == 0 ? 0 : 63);
        due(law + "RESULTS", room.votes(2), CHOOSE_OF_SIX[n]);
        due(law + "RESULT", room.votes(3), (1 << Math.min(n, 6)) - 1);
        due(law + "the most", room.favour(0, 0), Math.min(n, 6));
        due(law + "the fewest", room.favour(0, 1), Math.min(n, 6));
        due(law + "the ORDER", room.favour(0, 2), n == 0 ? 0 : 0012345);
    }

    private static void askedAgain() {
        reading(18, "what was asked under another LAW leaves no trace");
        for (int from = 0; from <= 7; from++) {
            for (int to = 0; to <= 7; to++) {
                WishRoom room = new WishRoom();
                mostOfSeven(room, from);
                askOfSeven(room, from);
                mostOfSeven(room, to);
                askOfSeven(room, to);
            }
        }
        reading(23, "what was asked of other VOTES leaves no trace");
        WishRoom room = noThree();
        for (int group = 0; group < 6; group++) {
            yes(room, group, 4);
        }
        due("MAY", room.votes(1), 63);
        due("RESULTS", room.votes(2), 15);
        for (int group = 1; group < 6; group++) {
            room.vote(0, group, false);
        }
        due("SURE", room.votes(0), 1);
        due("MAY", room.votes(1), 1);
        due("RESULTS", room.votes(2), 1);
        due("the most", room.favour(1, 0), 1);
        due("the fewest", room.favour(1, 1), 1);
        sentence(17, "all as known on any day");
        room = under("", "add must a;", "add must b;", "add must c;");
        room.days(1);
        room.withdraw(1);
        wish(room, 3, "add must not a;");
        for (int turn = 0; turn < 2; turn++) {
            room.view(0);
            due("GROUPS 0 and 2 then", room.together(5), 1);
            due("GROUPS 0, 1 and 2 then", room.together(7), 1);
            due("least(2) then", room.least(2), 0);
            room.view(1);
            due("GROUPS 0 and 2 now", room.together(5), 0);
            due("GROUPS 0, 1 and 2 now", room.together(7), 0);
            due("least(2) now", room.least(2), 1);
            due("leastSet(2, 0) now", room.leastSet(2, 0), 5);
        }
    }

    /** A change of a room, and a look at all that a change may turn. */
    private interface Change {
        void to(WishRoom room);
    }

    private static WishRoom busyRoom() {
        WishRoom room = under("must a or b; may c; must true;", "strike 0;", "keep 0;", "change 2 to must d;", "add must not b;",
            "change 2 to must not d;", "add must c and d;", "strike 1;", "add may a and b;");
        ground(room, 0, "a;");
        ground(room, 3, "not b;");
        room.days(2);
        wish(room, 20, "strike 0;");
        wish(room, 21, "add must not a;");
        room.withdraw(2);
        room.house(20, 3);
        room.world(1);
        room.world(4);
        for (int group = 0; group < 6; group++) {
            yes(room, group, 3 + group % 3);
        }
        return room;
    }

    private static void askAll(WishRoom room, StringBuilder answers) {
        for (int i = 0; i < 10; i++) {
            answers.append(room.count(i)).append(' ').append(room.look(i, 0)).append(' ');
            answers.append(room.group(i, i % 6)).append(' ').append(room.clash(i, i + 1)).append(' ');
            answers.append(room.together(3 << i)).append(' ').append(room.leastSet(2, i)).append(' ');
            answers.append(room.why(i, i % 4, 0)).append(' ');
        }
        for (int i = 0; i < 4; i++) {
            answers.append(room.draft(i, 0)).append(' ').append(room.draft(i, 1)).append(' ').append(room.votes(i)).append(' ');
            answers.append(room.favour(i, i % 3)).append(' ').append(room.gain(i)).append(' ').append(room.rule(i)).append(' ');
            answers.append(room.least(i)).append(' ').append(room.held(i, 0)).append(' ').append(room.cases(i, 1)).append(' ');
            answers.append(room.idle(i)).append(' ').append(room.blamed(i, 0)).append(' ').append(room.fewest(1)).append(' ');
        }
    }

    private static void askedLess() {
        reading(12, "an answer hangs on what was told, not on what was asked");
        Change[] changes = {
            room -> law(room, "must a; may b;"), room -> law(room, "must"), room -> wish(room, 5, "change 2 to must e;"),
            room -> wish(room, 5, "drop 1;"), room -> room.withdraw(0), room -> room.withdraw(7), room -> room.withdraw(99),
            room -> room.view(0), room -> room.view(1), room -> room.view(3), room -> room.days(1), room -> room.days(-1),
            room -> room.house(0, 5), room -> room.world(3), room -> ground(room, 1, "true;"), room -> room.vote(5, 1, true),
            room -> room.vote(0, 2, false), room -> tell(room, "must a")};
        for (int i = 0; i < changes.length; i++) {
            WishRoom asked = busyRoom();
            askAll(asked, new StringBuilder());
            changes[i].to(asked);
            StringBuilder got = new StringBuilder();
            askAll(asked, got);
            WishRoom unasked = busyRoom();
            changes[i].to(unasked);
            StringBuilder want = new StringBuilder();
            askAll(unasked, want);
            due("change " + i + ": " + got + "against " + want, got.toString().equals(want.toString()), true);
        }
    }

    private static boolean throwsAt(WishRoom room, int what) {
        try {
            room.count(what);
            return false;
        } catch (NoSuchElementException e) {
            return true;
        }
    }
}
