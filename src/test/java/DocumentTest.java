import java.io.IOException;
import java.lang.reflect.Constructor;
import java.lang.reflect.Method;
import java.lang.reflect.Modifier;
import java.nio.file.Files;
import java.nio.file.Path;
import java.util.ArrayList;
import java.util.Arrays;
import java.util.List;
import java.util.NoSuchElementException;
import java.util.function.IntPredicate;
import java.util.function.IntUnaryOperator;
import java.util.stream.Collectors;

/**
 * The document from its first line to its last: every word of it stands here in its order, each sentence ahead of the
 * checks that hold the class to it. A word that is left out, and a sentence without a check, fail.
 */
public final class DocumentTest extends Letters {
    private static final Path DOCUMENT = Path.of("..", "shared", "DOC.md");
    private static final long BLANKS = 0x2020202020202020L;

    private static final StringBuilder told = new StringBuilder();
    private static String words = "";
    private static boolean promising = false;
    private static int checksAhead = 0;
    private static int checks = 0;
    private static int sentences = 0;
    private static int wrong = 0;

    public static void main(String[] args) throws IOException {
        whatItIs();
        face();
        worlds();
        daysAndView();
        letters();
        grammar();
        wishGrammar();
        faults();
        lawsAndGrounds();
        persons();
        lawsByWishes();
        sameAndGroups();
        clashes();
        drafts();
        reasons();
        votesInOrders();
        casesAndBlame();
        idleAndFewest();
        promises1To8();
        promises9To15();
        promises16To21();
        promises22To25();
        promises26To32();
        notPromised();
        frame("");
        compareWithDocument();
        System.out.println(sentences + " sentences, " + checks + " checks, " + wrong + " wrong");
        if (wrong != 0) {
            System.exit(1);
        }
    }

    // ---- the words

    /** Words of the document that promise something: a check has to follow. */
    private static void says(String text) {
        frame(text);
        promising = true;
        sentences++;
    }

    /** Headings, and words that leave something free. */
    private static void frame(String text) {
        if (promising && checks == checksAhead) {
            fail("nothing is checked");
        }
        told.append(text).append(' ');
        words = text;
        promising = false;
        checksAhead = checks;
    }

    private static void compareWithDocument() throws IOException {
        String document = Files.readString(DOCUMENT).replaceAll("\\s+", " ").trim();
        String here = told.toString().replaceAll("\\s+", " ").trim();
        checks++;
        if (!document.equals(here)) {
            int same = 0;
            while (same < Math.min(document.length(), here.length()) && document.charAt(same) == here.charAt(same)) {
                same++;
            }
            words = "all its words";
            fail("the document goes on '" + cut(document, same) + "', this test '" + cut(here, same) + "'");
        }
    }

    private static String cut(String text, int from) {
        return text.substring(from, Math.min(text.length(), from + 60));
    }

    // ---- the checks

    private static void fail(String what) {
        wrong++;
        System.out.println("'" + words + "': " + what);
    }

    private static void due(String call, long got, long want) {
        checks++;
        if (got != want) {
            fail(call + " answered " + got + ", due is " + want);
        }
    }

    private static void due(String call, boolean got, boolean want) {
        due(call, got ? 1 : 0, want ? 1 : 0);
    }

    /** NONE for numbers that are not 0 to size - 1. */
    private static void noneBeyond(int size, String call, IntUnaryOperator asked) {
        for (int number : new int[] {-1, size, size + 1, -2, 1 << 30, Integer.MIN_VALUE, Integer.MAX_VALUE}) {
            due(call + " of " + number, asked.applyAsInt(number), -1);
        }
    }

    private static WishRoom under(String law, String... wishes) {
        WishRoom room = new WishRoom();
        due("law " + law, law(room, law), 0);
        for (int i = 0; i < wishes.length; i++) {
            due("wish " + wishes[i], wish(room, i, wishes[i]), 0);
        }
        return room;
    }

    /** Wishes of the PERSONS from first on, as many as hands, for the one thing. */
    private static void wishOften(WishRoom room, int first, int hands, String text) {
        for (int person = first; person < first + hands; person++) {
            due("wish " + text, wish(room, person, text), 0);
        }
    }

    /** So many houses, from house 0 on, vote yes for each of the groups. */
    private static void poll(WishRoom room, int... houses) {
        for (int group = 0; group < houses.length; group++) {
            for (int house = 0; house < houses[group]; house++) {
                room.vote(house, group, true);
            }
        }
    }

    /** The saying is so just where the test says, as a must, as a may and as a ground. */
    private static void isSo(String saying, IntPredicate where) {
        WishRoom room = under("must " + saying + "; may " + saying + ";");
        int number = 0;
        for (int world = 0; world < 128; world++) {
            due(saying + " in world " + world, room.allowed(world), where.test(world) ? 1 : 0);
            number += where.test(world) ? 1 : 0;
        }
        due(saying + ": worlds of the must", room.line(0, 1), number);
        due(saying + ": worlds of the may", room.line(1, 1), number);
        wish(room, 0, "keep 0;");
        due("ground " + saying, ground(room, 0, saying + ";"), 0);
        for (int world = 0; world < 40; world++) {
            room.world(world * 3);
            boolean all = true;
            for (int before = 0; before <= world; before++) {
                all &= where.test(before * 3);
            }
            due(saying + ": held with " + (world + 1) + " cases", room.held(0, 0), all ? 1 : 0);
        }
    }

    private static boolean bit(int world, int atom) {
        return (world >> atom & 1) == 1;
    }

    /** A fault at the token behind the mark ^ ; without a mark at the end. */
    private static int faultAt(int kind, String text) {
        int place = text.indexOf('^');
        return kind + 16 * (place < 0 ? text.length() : place);
    }

    private static void lawFault(int kind, String text) {
        due("law " + text, law(under("must a;"), text.replace("^", "")), faultAt(kind, text));
    }

    private static void wishFault(int kind, String text) {
        due("wish " + text, wish(under("must a; may b;"), 0, text.replace("^", "")), faultAt(kind, text));
    }

    private static void groundFault(int kind, String text) {
        WishRoom room = under("must a;", "keep 0;");
        due("ground " + text, ground(room, 0, text.replace("^", "")), faultAt(kind, text));
    }

    // ---- the document

    private static void whatItIs() {
        frame("# WishRoom");
        frame("## What it is");
        frame("Wish room: a law of lines that say what must be and what may be over small worlds, wishes to strike, change, "
            + "add or keep lines read from letters in a language, wishes that ask the same joined with the hands behind them, "
            + "clashes told by what both touch or by worlds that are left, least sets that can't be taken together, drafts "
            + "that keep the most by several weights, votes on parts in every order and who could gain by another vote, cases "
            + "before and after and who is to blame, grounds held against cases, lines that are idle, and why a wish was not "
            + "taken, all as known on any day. ==== 1.");
        says("An object is used for at most 512 calls after it has been made; what later calls answer is free.");
        WishRoom room = new WishRoom();
        for (int call = 1; call < 512; call++) {
            due("call " + call, room.days(1), call);
        }
        due("call 512", room.count(0), 511);
    }

    private static void face() {
        frame("## The public face");
        frame("```java import java.util.NoSuchElementException;");
        Class<?> type = WishRoom.class;
        says("public final class WishRoom {");
        due("public and final", type.getModifiers() & (Modifier.PUBLIC | Modifier.FINAL), Modifier.PUBLIC | Modifier.FINAL);
        says("public static final int NONE = -1;");
        due("NONE", WishRoom.NONE, -1);
        due("public fields", type.getFields().length, 1);
        says("public WishRoom();");
        Constructor<?>[] made = type.getConstructors();
        due("constructors", made.length, 1);
        due("its parameters", made[0].getParameterCount(), 0);
        List<String> there = new ArrayList<>();
        for (Method method : type.getDeclaredMethods()) {
            if (Modifier.isPublic(method.getModifiers())) {
                there.add(shown(method));
            }
        }
        String[] face = {"int days(int n);", "boolean view(int day);", "int feed(long a, long b, long c);", "int law();",
            "int wish(int person);", "boolean withdraw(int wish);", "boolean house(int person, int house);",
            "int allowed(int world);", "int rule(int what);", "int line(int line, int what);", "int look(int wish, int what);",
            "int ground(int wish);", "int held(int ground, int what);", "int group(int group, int what);",
            "int clash(int a, int b);", "int together(int set);", "int least(int n);", "int leastSet(int n, int i);",
            "int draft(int weight, int what);", "int why(int wish, int weight, int what);",
            "boolean vote(int house, int group, boolean yes);", "int votes(int what);", "int favour(int house, int what);",
            "int gain(int house);", "int world(int world);", "int cases(int weight, int what);",
            "int blamed(int number, int weight);", "int idle(int line);", "int fewest(int what);", "int beside(int a, int b);",
            "int count(int what) throws NoSuchElementException;"};
        for (String row : face) {
            says("public " + row);
            String unnamed = row.replaceAll("(int|long|boolean) \\w+([,)])", "$1$2");
            due("there is " + unnamed, there.remove(unnamed), true);
        }
        says("} ```");
        due("others than these " + there, there.size(), 0);
    }

    private static String shown(Method method) {
        String text = method.getReturnType() + " " + method.getName() + Arrays.stream(method.getParameterTypes())
            .map(Class::getName).collect(Collectors.joining(", ", "(", ")"));
        for (Class<?> thrown : method.getExceptionTypes()) {
            text += " throws " + thrown.getSimpleName();
        }
        return text + ";";
    }

    private static void worlds() {
        frame("## Terms");
        says("ATOMS a to g are so or not; a WORLD is a number 0 to 127 (bit 0: a is so .. bit 6: g).");
        for (int i = 0; i < 7; i++) {
            int atom = i;
            isSo(String.valueOf((char) ('a' + atom)), world -> bit(world, atom));
        }
        lawFault(1, "must ^h;");
        noneBeyond(128, "allowed", new WishRoom()::allowed);
        noneBeyond(128, "world", new WishRoom()::world);
        says("A SAYING tells for each WORLD whether it is so there.");
        isSo("a and not g or d", world -> bit(world, 0) && !bit(world, 6) || bit(world, 3));
        isSo("not (b or c and f)", world -> !(bit(world, 1) || bit(world, 2) && bit(world, 5)));
        says("A LINE is a must or a may with a SAYING.");
        WishRoom room = under("must a; may a and b; must a or b or c; may true;");
        int[] mays = {0, 1, 0, 1};
        int[] counts = {64, 32, 112, 128};
        for (int line = 0; line < 4; line++) {
            due("must or may of " + line, room.line(line, 0), mays[line]);
            due("worlds of " + line, room.line(line, 1), counts[line]);
        }
        says("A LAW is a row of LINES.");
        due("LINES", room.rule(0), 4);
        says("ALLOWED are the WORLDS in which the SAYINGS of all its must LINES are so.");
        room = under("must a or b; may not a; must not b or c; may false;");
        int number = 0;
        for (int world = 0; world < 128; world++) {
            boolean so = (bit(world, 0) || bit(world, 1)) && (!bit(world, 1) || bit(world, 2));
            due("allowed " + world, room.allowed(world), so ? 1 : 0);
            number += so ? 1 : 0;
        }
        due("WORLDS", room.rule(1), number);
        says("It QUARRELS if none is ALLOWED (kind 2), else if some may LINE has no ALLOWED WORLD in which its SAYING is so "
            + "(kind 3, the first such LINE).");
        quarrels("", 0, -1);
        quarrels("must a; may b;", 0, -1);
        quarrels("must a; must not a;", 2, -1);
        quarrels("may false; must a; must not a; may b;", 2, -1);
        quarrels("may b; must a; may not a; may a and not a;", 3, 2);
        quarrels("may false;", 3, 0);
        quarrels("may a; may not a;", 0, -1);
    }

    private static void quarrels(String law, int kind, int line) {
        WishRoom room = under(law);
        due(law + ": kind", room.rule(2), kind);
        due(law + ": its LINE", room.rule(3), line);
    }

    private static void daysAndView() {
        frame("```text");
        says("DAYS are 0 to 9999; NOW is one, 0 at first.");
        WishRoom room = new WishRoom();
        due("NOW", room.count(0), 0);
        for (int i = 1; i <= 9; i++) {
            due("days(1000)", room.days(1000), 1000 * i);
        }
        due("days(999)", room.days(999), 9999);
        due("days(1)", room.days(1), -1);
        due("NOW", room.count(0), 9999);
        says("THE VIEW is a DAY: WISHES and CASES told on it or ahead (of WITHDRAWN ones those withdrawn behind it).");
        room = under("must a;", "keep 0;");
        room.world(1);
        room.days(1);
        wish(room, 1, "strike 0;");
        room.world(2);
        room.days(1);
        room.withdraw(0);
        room.days(1);
        int[] seen = {1, 2, 1, 1};
        int[] cases = {1, 2, 2, 2};
        int[] firstWish = {0, 0, -1, -1};
        int[] secondWish = {-1, 1, 0, 0};
        for (int day = 0; day < 4; day++) {
            due("view(" + day + ")", room.view(day), true);
            due("WISHES on " + day, room.count(3), seen[day]);
            due("CASES on " + day, room.count(6), cases[day]);
            due("WISH 0 on " + day, room.look(0, 0), firstWish[day]);
            due("WISH 1 on " + day, room.look(1, 0), secondWish[day]);
        }
        says("It is NOW until another one is told, and NOW again if that is told.");
        room = new WishRoom();
        room.days(3);
        due("it goes along", room.count(1), 3);
        room.view(1);
        due("it is told", room.count(1), 1);
        room.days(2);
        due("it stays", room.count(1), 1);
        room.view(5);
        due("it is NOW", room.count(1), 5);
        room.days(1);
        due("it goes along again", room.count(1), 6);
        says("All else is as it is.");
        room = new WishRoom();
        room.days(5);
        law(room, "must a; may b;");
        wish(room, 7, "strike 0;");
        room.withdraw(0);
        room.world(9);
        ground(room, 0, "true;");
        room.view(0);
        int[] whole = {5, 0, 1, 0, 0, 1, 0, 0, 1, 1};
        for (int what = 0; what < 10; what++) {
            due("count(" + what + ")", room.count(what), whole[what]);
        }
        due("LINES", room.rule(0), 2);
        due("what the WISH does", room.look(0, 1), 0);
        due("its PERSON", room.look(0, 3), 7);
        due("the GROUND's WISH", room.held(0, 2), 0);
        frame("```");
    }

    private static void letters() {
        frame("==== 2. LETTERS.");
        says("The TAPE has at most 1,000 signs, 10 and 32 .. 126;");
        WishRoom room = new WishRoom();
        int number = 0;
        for (int sign = 0; sign < 256; sign++) {
            number += sign == 10 || sign >= 32 && sign <= 126 ? 1 : 0;
            due("sign " + sign, room.feed(0, sign, 0), number);
        }
        room = new WishRoom();
        for (int i = 1; i <= 42; i++) {
            due("feed " + i, room.feed(0x6161616161616161L, BLANKS, 0x0A0A0A0A0A0A0A0AL), Math.min(1000, 24 * i));
        }
        says("what reads it takes it: it is empty then.");
        room = under("must a;");
        due("signs behind a LAW", room.count(7), 0);
        law(room, "must h;");
        due("signs behind a FAULT", room.count(7), 0);
        wish(room, 0, "keep 0;");
        due("signs behind a WISH", room.count(7), 0);
        wish(room, 0, "keep 1;");
        due("signs behind a WISH that is none", room.count(7), 0);
        ground(room, 0, "a;");
        due("signs behind a GROUND", room.count(7), 0);
        ground(room, 0, "a");
        due("signs behind a GROUND that is none", room.count(7), 0);
        due("LINES of the empty text", room.law() * 100 + room.rule(0), 0);
        says("TOKENS, each as long as can be, blanks (10, 32) between where one likes:");
        under(" \n must\n\na \n;\n");
        under("must(a)and(not b)or(c);may d;must least 1of(a b);");
        under("must a;", "strike0;", "keep 0\n;", "change 0to may b;");
        lawFault(1, "^mustnot a;");
        lawFault(1, "^mus t a;");
        lawFault(1, "must ^ab;");
        lawFault(1, "must a ^orb;");
        lawFault(1, "must most 1 of(a ^bc);");
        wishFault(1, "strike 0 ^0;");
        says("WORDS (letters a .. z, 8 at most), NUMBERS (1 to 3 digits; a letter may stand right behind), the signs ( ) and the "
            + "semicolon.");
        due("a letter behind a NUMBER", law(new WishRoom(), "must most 2of(a b c);"), 0);
        due("a digit behind a WORD", law(new WishRoom(), "must most2 of(a b c);"), 0);
        due("three digits", wish(under("must a;"), 0, "strike 000;"), 0);
        due("two digits", wish(under("must a;"), 0, "strike 00;"), 0);
        lawFault(1, "^abcdefgh a;");
        wishFault(4, "keep ^999;");
        says("All else (a longer WORD or NUMBER, too, at its first sign) is none.");
        lawFault(1, "must ^abcdefghi;");
        lawFault(1, "must most ^0001 of (a);");
        wishFault(1, "keep ^0000;");
        for (char sign = 33; sign < 127; sign++) {
            boolean stands = sign >= 'a' && sign <= 'z' || sign >= '0' && sign <= '9' || "();".indexOf(sign) >= 0;
            if (!stands) {
                due("must a" + sign, law(new WishRoom(), "must a" + sign + ";"), 1 + 16 * 6);
                due("must " + sign, law(new WishRoom(), "must " + sign + "a;"), 1 + 16 * 5);
            }
        }
    }

    private static void grammar() {
        frame("```text");
        says("LAW: any number of LINES, 12 at most.");
        StringBuilder text = new StringBuilder();
        for (int number = 0; number <= 12; number++) {
            due("LINES", under(text.toString()).rule(0), number);
            text.append(number % 2 == 0 ? "must a;" : "may a;");
        }
        lawFault(5, text.substring(0, text.length() - 7) + "^must a;");
        says("LINE: must SAYING ; or may SAYING ;");
        under("must a;may a;");
        lawFault(1, "^a;");
        lawFault(1, "must ^;");
        lawFault(1, "may a");
        lawFault(1, "must a ^must b;");
        lawFault(1, "must a;^;");
        lawFault(1, "must ^may a;");
        says("SAYING: TERM { or TERM }. TERM: PART { and PART }.");
        isSo("a or b and c", w -> bit(w, 0) || bit(w, 1) && bit(w, 2));
        isSo("a and b or c", w -> bit(w, 0) && bit(w, 1) || bit(w, 2));
        isSo("a and b or c and d or e and f and g", w -> bit(w, 0) && bit(w, 1) || bit(w, 2) && bit(w, 3)
            || bit(w, 4) && bit(w, 5) && bit(w, 6));
        isSo("a or b or c and d and e or f", w -> bit(w, 0) || bit(w, 1) || bit(w, 2) && bit(w, 3) && bit(w, 4) || bit(w, 5));
        lawFault(1, "must a or ^;");
        lawFault(1, "must a and ^or b;");
        lawFault(1, "must ^or a;");
        lawFault(1, "must a ^b;");
        says("PART: an ATOM, true, false, not PART, ( SAYING ), most N of ( ATOMS ), least N of ( ATOMS );");
        isSo("e", w -> bit(w, 4));
        isSo("true", w -> true);
        isSo("false", w -> false);
        isSo("not a and b", w -> !bit(w, 0) && bit(w, 1));
        isSo("not not a", w -> bit(w, 0));
        isSo("(a or b) and c", w -> (bit(w, 0) || bit(w, 1)) && bit(w, 2));
        isSo("not most 1 of (a g)", w -> bit(w, 0) && bit(w, 6));
        isSo("not least 1 of (a g) or d", w -> !bit(w, 0) && !bit(w, 6) || bit(w, 3));
        lawFault(1, "must not ^;");
        lawFault(1, "must ( ^);");
        lawFault(1, "must (a^;");
        lawFault(1, "must most ^of (a);");
        lawFault(1, "must most 1 ^(a);");
        lawFault(1, "must least 1 of ^a;");
        lawFault(1, "must least 1 of (a ^or b);");
        lawFault(1, "must least 1 of (a^;");
        says("no PART lies within 6 of not and ( ).");
        for (int shape = 0; shape < 64; shape++) {
            nested(shape);
        }
        says("ATOMS: one or more, each once;");
        isSo("least 7 of (g a f b e c d)", w -> w == 127);
        isSo("most 0 of (c)", w -> !bit(w, 2));
        lawFault(1, "must most 1 of (^);");
        lawFault(3, "must most 1 of (a ^a);");
        lawFault(3, "must least 1 of (a b c d e f g ^c);");
        says("N 0 to 7: so many of these are so at most (at least).");
        for (int n = 0; n <= 7; n++) {
            int number = n;
            isSo("most " + n + " of (a c e g)", w -> Integer.bitCount(w & 85) <= number);
            isSo("least " + n + " of (b c d e f g)", w -> Integer.bitCount(w & 126) >= number);
        }
        lawFault(4, "must most ^8 of (a);");
        lawFault(4, "must least ^999 of (a);");
    }

    /** Six of not and ( ), which bits of shape are set for ( : five may stand round a PART, not six. */
    private static void nested(int shape) {
        String[] parts = {"a", "true", "false", "not a", "(a)", "most 0 of (a)", "least 0 of (a)"};
        StringBuilder ahead = new StringBuilder("must ");
        StringBuilder behind = new StringBuilder();
        for (int level = 0; level < 6; level++) {
            boolean round = (shape >> level & 1) == 1;
            if (level == 5) {
                due("five round a", law(new WishRoom(), ahead + "a" + behind + ";"), 0);
            }
            ahead.append(round ? "(" : "not ");
            behind.append(round ? ")" : "");
        }
        for (String part : parts) {
            lawFault(5, ahead + "^" + part + behind + ";");
        }
        lawFault(1, ahead + "^)");
        lawFault(1, ahead + "^of");
        lawFault(1, ahead.toString());
    }

    private static void wishGrammar() {
        says("WISH: strike N ; or keep N ; or change N to LINE or add LINE");
        WishRoom room = under("must a; may b;", "strike 0;", "keep 1;", "change 1 to must c;", "add may d;");
        for (int wish = 0; wish < 4; wish++) {
            due("what WISH " + wish + " does", room.look(wish, 1), wish);
        }
        wishFault(1, "strike 0");
        wishFault(1, "keep ^;");
        wishFault(1, "change 0 ^must c;");
        wishFault(1, "change 0 to ^c;");
        wishFault(1, "change ^to must c;");
        wishFault(1, "add must c");
        wishFault(1, "add ^0 must c;");
        wishFault(1, "^must c;");
        wishFault(1, "^0;");
        says("N: a LINE of the LAW (from 0).");
        int[] lines = {0, 1, 1, -1};
        for (int wish = 0; wish < 4; wish++) {
            due("LINE of WISH " + wish, room.look(wish, 2), lines[wish]);
        }
        wishFault(4, "strike ^2;");
        wishFault(4, "keep ^002;");
        wishFault(4, "change ^2 to must c;");
        due("no LINE is there", wish(new WishRoom(), 0, "strike 0;"), 4 + 16 * 7);
        says("GROUND: SAYING ;");
        due("ground", ground(room, 0, "a or b;"), 0);
        groundFault(1, "a or b");
        groundFault(1, "^must a;");
        groundFault(1, "^;");
    }

    private static void faults() {
        says("FAULTS, kind + 16 * the place (from 0) of a token, the end being one at the text's length:");
        lawFault(1, "^or");
        lawFault(1, "  \n ^or");
        lawFault(1, "must a");
        lawFault(1, "must a  \n");
        lawFault(1, " ".repeat(998) + "^;;");
        wishFault(1, "");
        wishFault(1, "   ");
        groundFault(1, "");
        groundFault(1, "\n\n");
        says("of the first token from the left that is wrong the least:");
        lawFault(1, "must a ^b = must most 9 of (a a);");
        lawFault(4, "must most ^9 of (a a) = ;");
        lawFault(3, "must most 1 of (a ^a) = ;");
        lawFault(1, "must not not not not not not ^= most 9 of (a);");
        lawFault(5, "must not not not not not not ^most 9 of (a a);");
        says("1 it is none, or can't stand there (anything behind a WISH, a GROUND, too);");
        lawFault(1, "must a^=;");
        lawFault(1, "must a^);");
        wishFault(1, "keep 0;^;");
        wishFault(1, "add must c; ^must d;");
        wishFault(1, "strike 0; ^=");
        groundFault(1, "a;^;");
        groundFault(1, "a; ^b;");
        says("3 an ATOM that is told in these ATOMS;");
        lawFault(3, "must most 2 of (a b ^b);");
        wishFault(3, "add may least 1 of (g f ^g);");
        groundFault(3, "most 2 of (a ^a);");
        due("in others it is not", law(new WishRoom(), "must most 1 of (a b) and least 1 of (a b);"), 0);
        says("4 a NUMBER that is not as told (a LINE that is none, too);");
        lawFault(4, "may least ^8 of (a);");
        wishFault(4, "add must most ^10 of (a);");
        wishFault(4, "strike ^2");
        groundFault(4, "most ^008 of (a);");
        says("5 one too many: the word must, may of a 13th LINE; not, or a PART, within 6 others.");
        String twelve = "may a;".repeat(12);
        lawFault(5, twelve + "^must =");
        lawFault(5, twelve + " ^may");
        lawFault(1, twelve + "^a");
        lawFault(1, twelve + "^musts");
        lawFault(5, "must not ( not ( not ( ^not");
        lawFault(5, "must ( not ( not ( not ^a");
        groundFault(5, "((((((^a))))));");
        wishFault(5, "add may not not not not not not ^b;");
    }

    private static void lawsAndGrounds() {
        says("A LAW without a FAULT is the LAW from then on; all WISHES, GROUNDS, GROUPS, VOTES are gone then (CASES, PERSONS "
            + "stay).");
        WishRoom room = under("must a;", "strike 0;", "add must b;");
        room.house(4, 6);
        room.world(5);
        ground(room, 0, "true;");
        poll(room, 7, 7);
        due("RESULT", room.votes(3), 3);
        due("a LAW with a FAULT", law(room, "may b; must c"), faultAt(1, "may b; must c"));
        due("LINES", room.rule(0), 1);
        due("WISHES", room.count(2), 2);
        due("GROUNDS", room.count(9), 1);
        due("GROUPS", room.count(4), 2);
        due("RESULT", room.votes(3), 3);
        due("another LAW", law(room, "may b; must c;"), 0);
        due("LINES", room.rule(0), 2);
        due("WISHES", room.count(2), 0);
        due("WITHDRAWN", room.count(8), 0);
        due("GROUNDS", room.count(9), 0);
        due("GROUPS", room.count(4), 0);
        due("CASES", room.count(5), 1);
        due("wish of house 0", wish(room, 0, "strike 0;"), 0);
        due("wish of house 6", wish(room, 4, "strike 0;"), 0);
        due("HOUSES", room.group(0, 1), 2);
        due("RESULT", room.votes(3), 0);
        says("GROUNDS, 20 at most, are of a WISH.");
        room = under("", "add must a;", "add must b;");
        for (int i = 0; i < 20; i++) {
            due("ground " + i, ground(room, i % 2, "a;"), 0);
            due("its WISH", room.held(i, 2), i % 2);
        }
        due("ground 20", ground(room, 0, "a;"), -1);
        due("GROUNDS", room.count(9), 20);
        says("One is HELD in THE VIEW if there is a CASE and its SAYING is so in the WORLDS of all.");
        room = under("", "add must a;");
        ground(room, 0, "a;");
        due("without a CASE", room.held(0, 0), 0);
        room.days(1);
        room.world(1);
        due("so in it", room.held(0, 0), 1);
        room.days(1);
        room.world(3);
        due("so in both", room.held(0, 0), 1);
        room.days(1);
        room.world(2);
        due("not in the third", room.held(0, 0), 0);
        int[] held = {0, 1, 1, 0};
        for (int day = 0; day < 4; day++) {
            room.view(day);
            due("on " + day, room.held(0, 0), held[day]);
            due("GROUNDS on " + day, room.group(0, 3), held[day]);
        }
        frame("```");
    }

    private static void persons() {
        frame("==== 3.");
        says("PERSONS 0 to 99 are of a HOUSE (0 to 6; 0 at first).");
        WishRoom room = new WishRoom();
        wish(room, 0, "add must a;");
        wish(room, 99, "add must a;");
        due("HOUSES", room.group(0, 1), 1);
        due("house", room.house(99, 6), true);
        due("HOUSES", room.group(0, 1), 2);
        due("house", room.house(99, 0), true);
        due("HOUSES", room.group(0, 1), 1);
        for (int far : new int[] {-1, 100, Integer.MIN_VALUE, Integer.MAX_VALUE}) {
            due("PERSON " + far, room.house(far, 0), false);
            due("HOUSE " + far, room.house(0, far), false);
        }
        due("HOUSE 7", room.house(0, 7), false);
        says("WISHES, 30 at most, are of a PERSON, told on the DAY NOW;");
        room = new WishRoom();
        for (int i = 0; i < 30; i++) {
            due("wish " + i, wish(room, 3 * i, "add must a;"), 0);
            due("its PERSON", room.look(i, 3), 3 * i);
            room.days(1);
        }
        due("wish 30", wish(room, 0, "add must a;"), -1);
        due("WISHES", room.count(2), 30);
        for (int day = 0; day < 30; day++) {
            room.view(day);
            due("WISHES on " + day, room.count(3), day + 1);
        }
        says("one may be WITHDRAWN on a DAY (NOW), once.");
        due("withdraw", room.withdraw(4), true);
        due("again", room.withdraw(4), false);
        due("WITHDRAWN", room.count(8), 1);
        due("in THE VIEW of the day ahead", room.look(4, 0), 0);
        room.view(30);
        due("in THE VIEW of NOW", room.look(4, 0), -1);
        room.days(1);
        due("again on another DAY", room.withdraw(4), false);
    }

    private static void lawsByWishes() {
        frame("```text");
        says("BY some WISHES the LAW becomes another one: LINES that are changed stand in their places, those struck are out, "
            + "those added come behind, in the order of the WISHES.");
        WishRoom room = under("must a; must b; must c;", "strike 0;", "change 1 to must d;", "add may e;", "add must f;");
        due("DRAFT", room.draft(0, 0), 15);
        due("its LINES", room.draft(0, 2), 4);
        due("its WORLDS: c, d, f", room.draft(0, 3), 16);
        room = under("may a; must b;", "change 0 to must c;", "change 1 to may not c and b;");
        due("both changes: LINES", room.draft(0, 2), 2);
        due("may not c in vain", room.together(3), 0);
        says("Two WISHES TOUCH if they are of one LINE and not alike in this:");
        clashIs("must a; must b;", "strike 0;", "strike 1;", 0);
        clashIs("must a; must b;", "keep 0;", "strike 1;", 0);
        clashIs("must a; must b;", "change 0 to must c;", "change 1 to must d;", 0);
        clashIs("must a;", "add must c;", "add may d;", 0);
        clashIs("must a;", "strike 0;", "add must not a;", 0);
        says("one keeps and the other strikes or changes;");
        clashIs("must a;", "keep 0;", "strike 0;", 1);
        clashIs("must a;", "strike 0;", "keep 0;", 1);
        clashIs("must a;", "keep 0;", "change 0 to must b;", 1);
        clashIs("must a;", "change 0 to must a;", "keep 0;", 1);
        says("one strikes and the other changes;");
        clashIs("must a;", "strike 0;", "change 0 to must b;", 1);
        clashIs("must a;", "change 0 to may b;", "strike 0;", 1);
        says("both change and to what is not the same (must or may, SAYING so in the same WORLDS).");
        clashIs("must a;", "change 0 to must b;", "change 0 to must c;", 1);
        clashIs("must a;", "change 0 to must b;", "change 0 to may b;", 1);
        clashIs("must a;", "change 0 to may b;", "change 0 to may c;", 1);
        says("(More that strike or keep one LINE, or change it to the same, are as one.)");
        room = under("must a; must b; must c;", "strike 0;", "strike 0;", "keep 1;", "keep 1;", "change 2 to may d and e;",
            "change 2 to may not (not e or not d);");
        due("GROUPS", room.count(4), 3);
        due("they go together", room.together(7), 1);
        due("LINES", room.draft(0, 2), 2);
    }

    private static void clashIs(String law, String one, String other, int kind) {
        WishRoom room = under(law, one, other);
        due(one + " with " + other, room.clash(0, 1), kind);
        due("the other way", room.clash(1, 0), kind);
        due("together", room.together(3), kind == 0 ? 1 : 0);
    }

    private static void areSame(boolean same, String law, String one, String other) {
        WishRoom room = under(law, one, other);
        due(law + one + other, room.look(1, 0), same ? 0 : 1);
        due("GROUPS", room.count(4), same ? 1 : 2);
    }

    private static void sameAndGroups() {
        says("SAME are two WISHES in THE VIEW if both are keep of one LINE, or none is a keep and the LAWS by each alone mean the "
            + "same:");
        areSame(true, "must a; must a;", "keep 0;", "keep 0;");
        areSame(false, "must a; must a;", "keep 0;", "keep 1;");
        areSame(false, "must a;", "keep 0;", "change 0 to must a;");
        areSame(true, "must a; must a;", "strike 0;", "strike 1;");
        areSame(true, "must a; must a;", "strike 0;", "add must a or b;");
        areSame(true, "must a;", "strike 0;", "change 0 to must true;");
        areSame(true, "must a;", "add must b;", "change 0 to must b and a;");
        WishRoom room = under("must a;", "strike 0;", "strike 0;", "strike 0;");
        room.withdraw(0);
        due("one that is not in THE VIEW", room.look(0, 0), -1);
        due("WISHES of the GROUP", room.group(0, 5), 2);
        says("the same WORLDS are ALLOWED,");
        areSame(false, "must a;", "add must b;", "add must c;");
        areSame(false, "", "add must false;", "add may false;");
        areSame(true, "must a; must not a;", "add must b;", "add must c;");
        says("and the may LINES' SAYINGS are so in the same sets of WORLDS (each set once, in whatever order).");
        areSame(true, "may a; may b;", "add may a;", "add must true;");
        areSame(true, "may a; may b;", "change 0 to may b;", "strike 0;");
        areSame(true, "may a; may a;", "change 0 to may b;", "change 1 to may b;");
        areSame(true, "may a;", "add may b or c;", "add may c or b;");
        areSame(false, "may a;", "add may b;", "add may c;");
        areSame(false, "may a;", "add may b;", "add must true;");
        areSame(false, "must a;", "add may b;", "add may a and b;");
        says("GROUPS: WISHES that are SAME together, numbered by their first WISHES.");
        room = under("must a; must b;", "strike 1;", "strike 0;", "strike 1;", "add must c;", "change 0 to must true;");
        int[] groups = {0, 1, 0, 2, 1};
        int[] later = {-1, 0, 1, 2, 0};
        for (int wish = 0; wish < 5; wish++) {
            due("GROUP of " + wish, room.look(wish, 0), groups[wish]);
        }
        room.withdraw(0);
        for (int wish = 0; wish < 5; wish++) {
            due("GROUP of " + wish + " then", room.look(wish, 0), later[wish]);
        }
        says("HANDS: how many PERSONS are in it; HOUSES likewise;");
        room = under("must a;");
        wishOften(room, 5, 4, "strike 0;");
        wishOften(room, 5, 2, "strike 0;");
        room.house(6, 3);
        room.house(7, 3);
        due("WISHES", room.group(0, 5), 6);
        due("HANDS", room.group(0, 0), 4);
        due("HOUSES", room.group(0, 1), 2);
        says("REACH: in how many WORLDS the LAW by it allows otherwise than the LAW does.");
        room = under("must a;", "strike 0;", "change 0 to must b;", "add must b;", "keep 0;", "add may b;", "add must false;");
        int[] reach = {64, 64, 32, 0, 0, 64};
        for (int group = 0; group < 6; group++) {
            due("REACH of " + group, room.group(group, 2), reach[group]);
        }
        says("What a GROUP does is what its first WISH does.");
        room = under("must a; must a;", "strike 0;", "strike 1;", "keep 0;", "keep 1;");
        due("GROUPS", room.count(4), 3);
        due("it strikes LINE 0", room.clash(0, 1), 1);
        due("it does not strike LINE 1", room.clash(0, 2), 0);
        room.withdraw(0);
        due("it strikes LINE 1 then", room.clash(0, 2), 1);
        due("and no more LINE 0", room.clash(0, 1), 0);
        frame("```");
    }

    /** Any two of the three GROUPS go together, all three don't. */
    private static WishRoom noThree() {
        return under("", "add must a or b;", "add must not a;", "add must not b;");
    }

    private static void clashes() {
        frame("==== 4.");
        says("CLASH of two GROUPS: 1 they TOUCH; else the kind (2, 3) in which the LAW by both QUARRELS; else 0.");
        clashIs("must a;", "strike 0;", "change 0 to must false;", 1);
        clashIs("must a;", "add must b;", "add must not b;", 2);
        clashIs("may c;", "add must b;", "add must not b and not c;", 2);
        clashIs("must a;", "add may b;", "add must not b;", 3);
        clashIs("may c;", "add must b or not c;", "add must not b or not c;", 3);
        clashIs("must a;", "add must b;", "add must c;", 0);
        says("GROUPS GO TOGETHER if no two TOUCH and the LAW by all of them does not QUARREL.");
        WishRoom room = noThree();
        int[] goes = {1, 1, 1, 1, 1, 1, 1, 0};
        for (int set = 0; set < 8; set++) {
            due("together(" + set + ")", room.together(set), goes[set]);
        }
        room = under("must a; must not a;", "strike 0;", "add must b;", "strike 1;", "keep 0;");
        int[] mended = {0, 1, 0, 1, 1, 1, 1, 1, 0, 0, 0, 0, 1, 0, 1, 0};
        for (int set = 0; set < 16; set++) {
            due("together(" + set + ") under a LAW that QUARRELS", room.together(set), mended[set]);
        }
        fullLaws();
        says("LEAST SETS: sets of 1 to 3 GROUPS that do not GO TOGETHER, each less of them (none: the LAW itself) do.");
        leastSets(noThree(), new int[0], new int[0], new int[] {7});
        leastSets(under("", "add must false;", "add must a;", "add must not a;", "add must b;", "add must not b or not a;"),
            new int[] {1}, new int[] {6}, new int[] {26});
        leastSets(under("must a; must not a;", "add must b;", "strike 0;"), new int[0], new int[0], new int[0]);
    }

    /** The LAW by all has 42 LINES, the most there can be: the last of them counts as the others do. */
    private static void fullLaws() {
        WishRoom musts = under("must true;".repeat(12));
        WishRoom mays = under("may true;".repeat(12));
        for (int world = 0; world < 29; world++) {
            wishOften(musts, world, 1, "add must not (" + alone(world) + ");");
            wishOften(mays, world, 1, "add may " + alone(world) + ";");
        }
        wishOften(musts, 29, 1, "add must not f and not g and not (c and d and e and (a or b));");
        wishOften(mays, 29, 1, "add may false;");
        int all = (1 << 30) - 1;
        due("all but the last must", musts.together(all >> 1), 1);
        due("all 42 musts", musts.together(all), 0);
        due("all but the first wish", musts.together(all - 1), 1);
        due("all but the last may", mays.together(all >> 1), 1);
        due("all 42 mays", mays.together(all), 0);
    }

    /** A saying that is so in the one world. */
    private static String alone(int world) {
        StringBuilder text = new StringBuilder();
        for (int atom = 0; atom < 7; atom++) {
            text.append(atom == 0 ? "" : " and ").append(bit(world, atom) ? "" : "not ").append((char) ('a' + atom));
        }
        return text.toString();
    }

    private static void leastSets(WishRoom room, int[]... sets) {
        for (int n = 1; n <= 3; n++) {
            due("least(" + n + ")", room.least(n), sets[n - 1].length);
            for (int i = 0; i < sets[n - 1].length; i++) {
                due("leastSet(" + n + ", " + i + ")", room.leastSet(n, i), sets[n - 1][i]);
            }
        }
    }

    /** Each of the four GROUPS changes the one LINE, so a DRAFT has one: another one by each WEIGHT. */
    private static WishRoom fourWeights() {
        WishRoom room = under("must a or b;");
        wishOften(room, 1, 3, "change 0 to must a;");
        wishOften(room, 4, 2, "change 0 to must b;");
        wishOften(room, 6, 1, "change 0 to must c and d and e;");
        wishOften(room, 7, 1, "change 0 to must a or b or g;");
        room.house(5, 1);
        due("ground", ground(room, 6, "g;"), 0);
        room.world(64);
        return room;
    }

    private static void drafts() {
        frame("```text");
        says("DRAFT by a WEIGHT (0 HANDS, 1 HOUSES, 2 REACH, 3 GROUNDS: how many GROUNDS of its WISHES are HELD):");
        WishRoom room = fourWeights();
        int[] sums = {3, 2, 88, 1};
        for (int weight = 0; weight < 4; weight++) {
            due("DRAFT by " + weight, room.draft(weight, 0), 1 << weight);
            due("its sum", room.draft(weight, 1), sums[weight]);
            due("the GROUP's", room.group(weight, weight), sums[weight]);
        }
        says("of the sets of GROUPS 0 to 11 that GO TOGETHER that with the greatest sum;");
        room = under("");
        for (int group = 0; group < 14; group++) {
            wishOften(room, group, 1, "add may " + "a and not b or c and ".repeat(group / 7) + (char) ('a' + group % 7) + ";");
        }
        due("GROUPS", room.count(4), 14);
        due("DRAFT", room.draft(0, 0), 4095);
        room = under("");
        wishOften(room, 0, 3, "add must a and b;");
        wishOften(room, 3, 2, "add must not a;");
        wishOften(room, 5, 2, "add must not b;");
        due("two with four HANDS", room.draft(0, 0), 6);
        due("the sum", room.draft(0, 1), 4);
        says("of equal ones the one with the fewest GROUPS, then the least number (bits).");
        room = under("");
        wishOften(room, 0, 1, "add must not a;");
        wishOften(room, 1, 1, "add must not b;");
        wishOften(room, 2, 2, "add must a and b;");
        due("one with two HANDS", room.draft(0, 0), 4);
        due("one HOUSE each", room.draft(1, 0), 3);
        due("no GROUND at all", room.draft(3, 0), 0);
        due("the least number", under("", "add must a;", "add must not a;").draft(0, 0), 1);
        due("the least number of two", noThree().draft(0, 0), 3);
        says("None if the LAW itself QUARRELS and no set mends it.");
        room = under("must a; must not a;", "add must b;");
        for (int weight = 0; weight < 4; weight++) {
            due("DRAFT by " + weight, room.draft(weight, 0), -1);
        }
        wishOften(room, 1, 1, "strike 0;");
        due("both", room.draft(0, 0), 3);
        due("by GROUNDS: what mends it", room.draft(3, 0), 2);
    }

    private static void whyIs(WishRoom room, int wish, int weight, int why, int group) {
        due("why of " + wish + " by " + weight, room.why(wish, weight, 0), why);
        due("the GROUP of " + wish, room.why(wish, weight, 1), group);
    }

    private static void reasons() {
        says("WHY of a WISH in THE VIEW by a DRAFT: 0 its GROUP is in it;");
        WishRoom room = under("");
        wishOften(room, 0, 2, "add must a or b;");
        wishOften(room, 2, 2, "add must not a;");
        wishOften(room, 4, 1, "add must not b;");
        wishOften(room, 5, 1, "add must false;");
        wishOften(room, 6, 1, "add must a;");
        wishOften(room, 7, 1, "add must not b and not a;");
        wishOften(room, 8, 1, "add may c;");
        due("DRAFT", room.draft(0, 0), 1 + 2 + 64);
        for (int wish : new int[] {0, 1, 2, 3, 8}) {
            whyIs(room, wish, 0, 0, -1);
        }
        says("1 its GROUP alone does not GO;");
        whyIs(room, 5, 0, 1, -1);
        whyIs(room, 5, 3, 1, -1);
        says("2 its CLASH with a GROUP of the DRAFT is not 0 (the first such is told);");
        whyIs(room, 6, 0, 2, 1);
        whyIs(room, 7, 0, 2, 0);
        room = under("must a;", "keep 0;", "keep 0;", "strike 0;");
        whyIs(room, 2, 0, 2, 0);
        says("3 it does not GO TOGETHER with all of the DRAFT;");
        whyIs(noThree(), 2, 0, 3, -1);
        says("4 else.");
        whyIs(noThree(), 0, 3, 4, -1);
        whyIs(under("must a;", "keep 0;"), 0, 2, 4, -1);
        frame("```");
    }

    private static void votesInOrders() {
        frame("==== 5. VOTES.");
        says("Each HOUSE votes yes or no for each of the GROUPS 0 to 5 (no at first).");
        WishRoom room = under("", "add must a;", "add must b;", "add must c;", "add must d;", "add must e;", "add must f;",
            "add must g;");
        due("RESULT", room.votes(3), 0);
        for (int house = 0; house < 7; house++) {
            due("vote", room.vote(house, 5, true), true);
            due("GROUP 6", room.vote(house, 6, true), false);
        }
        due("RESULT", room.votes(3), 32);
        for (int house = 0; house < 7; house++) {
            due("vote", room.vote(house, 5, false), true);
        }
        due("RESULT", room.votes(3), 0);
        says("By an ORDER of the GROUPS 0 to n - 1 (n: how many there are, 6 at most) one after the other is put:");
        poll(room, 7, 7, 7, 7, 7, 7);
        due("RESULT of six", room.votes(3), 63);
        due("the first ORDER of six", room.favour(0, 2), 012345);
        room = under("", "add must a;", "add must b;");
        poll(room, 7, 7, 7, 7, 7, 7);
        due("RESULT of two", room.votes(3), 3);
        due("the first ORDER of two", room.favour(0, 2), 01);
        due("the one ORDER of none", new WishRoom().favour(0, 2), 0);
        says("it is TAKEN if more HOUSES (of the 7) vote yes than no and it GOES TOGETHER with those TAKEN.");
        for (int houses = 0; houses <= 7; houses++) {
            room = under("", "add must a;");
            poll(room, houses);
            due(houses + " HOUSES", room.votes(3), houses >= 4 ? 1 : 0);
        }
        room = noThree();
        poll(room, 7, 7, 7);
        due("two of three", room.votes(3), 3);
        says("RESULT is the set of those TAKEN (bits).");
        room = under("", "add must a;", "add must not a;", "add must b;", "add must false;", "add must c;");
        poll(room, 4, 7, 5, 7, 4);
        due("RESULT", room.votes(3), 1 + 4 + 16);
        says("Over all ORDERS: SURE those TAKEN in each, MAY in some; RESULTS: how many different ones.");
        due("SURE", room.votes(0), 4 + 16);
        due("MAY", room.votes(1), 1 + 2 + 4 + 16);
        due("RESULTS", room.votes(2), 2);
        room = noThree();
        poll(room, 7, 7, 7);
        due("SURE", room.votes(0), 0);
        due("MAY", room.votes(1), 7);
        due("RESULTS", room.votes(2), 3);
        says("GAIN of a HOUSE: whether, in the ORDER 0, 1, .., it could have more of the GROUPS for which it votes yes TAKEN if it "
            + "voted otherwise on just one of them all.");
        room = oneOrTwo();
        due("by a no to GROUP 0", room.gain(0), 0);
        due("a HOUSE that votes no to all", room.gain(4), -1);
        room.vote(5, 0, true);
        due("if one no would not do", room.gain(0), -1);
        gainByYes();
        frame("```text");
        says("FAVOUR of a HOUSE: over all ORDERS the most of the GROUPS for which it votes yes that are TAKEN, the fewest, and the "
            + "first ORDER with the most (ORDERS by their GROUPS, the first ones first).");
        room = oneOrTwo();
        favours(room, 0, 2, 1, 0102);
        favours(room, 6, 0, 0, 0012);
        room.vote(6, 0, true);
        favours(room, 6, 1, 0, 0012);
        frame("```");
    }

    /** GROUP 0 alone or GROUPS 1 and 2; four HOUSES vote yes for all. */
    private static WishRoom oneOrTwo() {
        WishRoom room = under("", "add must a;", "add must not a and b;", "add must not a and c;");
        poll(room, 4, 4, 4);
        return room;
    }

    /** GROUP 1 goes with none; by a yes to GROUP 0, for which it is not, HOUSE 3 keeps it out and has GROUP 2. */
    private static void gainByYes() {
        WishRoom room = under("", "add must a;", "add must not a and d;", "add must not d;");
        poll(room, 3, 7, 7);
        room.vote(3, 1, false);
        due("RESULT", room.votes(3), 2);
        due("by a yes to GROUP 0", room.gain(3), 0);
        due("a HOUSE whose yes to it counts by now", room.gain(0), -1);
        due("the votes stay", room.votes(3), 2);
    }

    private static void favours(WishRoom room, int house, int most, int fewest, int order) {
        due("the most for " + house, room.favour(house, 0), most);
        due("the fewest for " + house, room.favour(house, 1), fewest);
        due("the ORDER for " + house, room.favour(house, 2), order);
    }

    /** Two GROUPS, both in the DRAFT: a must be, b must be; CASE i is the world i. */
    private static WishRoom bothMust() {
        WishRoom room = under("", "add must a;", "add must b;");
        for (int world = 0; world < 4; world++) {
            due("CASE", room.world(world), world);
        }
        return room;
    }

    private static void casesAndBlame() {
        frame("==== 6.");
        says("CASES, 40 at most: a WORLD, told on the DAY NOW.");
        WishRoom room = new WishRoom();
        for (int i = 0; i < 40; i++) {
            due("CASE " + i, room.world(127 - i), i);
            room.days(i % 2);
        }
        due("CASE 40", room.world(0), -1);
        due("CASES", room.count(5), 40);
        for (int day = 0; day <= 20; day++) {
            room.view(day);
            due("CASES on " + day, room.count(6), Math.min(40, 2 * day + 2));
        }
        says("By a DRAFT: how many CASES in THE VIEW are ALLOWED by the LAW and not by the DRAFT, and the other way.");
        room = under("must a;", "change 0 to must b;");
        for (int world : new int[] {1, 2, 3, 0, 1}) {
            room.world(world);
        }
        room.days(1);
        room.world(1);
        due("no more ALLOWED", room.cases(0, 0), 3);
        due("newly ALLOWED", room.cases(0, 1), 1);
        room.view(0);
        due("no more ALLOWED on 0", room.cases(0, 0), 2);
        due("by the empty DRAFT", room.cases(3, 0) + room.cases(3, 1), 0);
        says("BLAMED for a CASE that is told otherwise by a DRAFT: the first of its GROUPS without which (all others stay) it is "
            + "not.");
        room = bothMust();
        int[] blamed = {-1, 1, 0, -1};
        for (int number = 0; number < 4; number++) {
            due("BLAMED for " + number, room.blamed(number, 0), blamed[number]);
        }
        room = under("must a; must b;", "strike 0;", "strike 1;");
        int[] freed = {0, 1, 0, -1};
        for (int number = 0; number < 4; number++) {
            room.world(number);
            due("BLAMED for " + number, room.blamed(number, 0), freed[number]);
        }
        room = under("must a or b;", "change 0 to must a and b;", "add must a;");
        room.world(2);
        due("without either it is told otherwise still", room.blamed(0, 0), -1);
        room.world(1);
        due("GROUP 0 alone", room.blamed(1, 0), 0);
    }

    private static void idleAndFewest() {
        frame("```text");
        says("IDLE is a LINE of the LAW without which the LAW means the same (see SAME).");
        WishRoom room = under("must a or b; must a; may c; may c; must b or a; must true; may d;");
        int[] idle = {1, 0, 1, 1, 1, 1, 0};
        for (int line = 0; line < 7; line++) {
            due("IDLE " + line, room.idle(line), idle[line]);
        }
        says("FEWEST: the least number of LINES of the LAW that mean the same as all; of as many the least number (bits).");
        due("how many", room.fewest(0), 3);
        due("which", room.fewest(1), 2 + 4 + 64);
        room = under("must a and b; must a; must b; must b and a;");
        due("how many", room.fewest(0), 1);
        due("which", room.fewest(1), 1);
        room = under("must a; must not a and b; must not b; must false;");
        due("how many", room.fewest(0), 1);
        due("which", room.fewest(1), 8);
        room = under("must a; must b; must c;");
        due("how many", room.fewest(0), 3);
        due("which", room.fewest(1), 7);
        room = under("must true; may a; may b; must a and b and c;");
        due("a LAW of fewer LINES", law(room, "must a and b; must b and c; must c and a;"), 0);
        due("how many, none of an earlier LAW", room.fewest(0), 2);
        due("which, none of an earlier LAW", room.fewest(1), 3);
        says("BESIDE: the GROUPS of one DRAFT that another one leaves out.");
        room = fourWeights();
        for (int a = 0; a < 4; a++) {
            for (int b = 0; b < 4; b++) {
                due("beside(" + a + ", " + b + ")", room.beside(a, b), a == b ? 0 : 1 << a);
            }
        }
        frame("```");
        says("The constants: `NONE = -1`: None.");
        due("NONE", WishRoom.NONE, -1);
    }

    // ---- the promises

    private static void promises1To8() {
        frame("## Promise 1: A new object");
        says("`WishRoom()`: A LAW without LINES, no WISH; NOW is 0.");
        WishRoom room = new WishRoom();
        due("LINES", room.rule(0), 0);
        due("WORLDS", room.rule(1), 128);
        for (int what = 0; what < 10; what++) {
            due("count(" + what + ")", room.count(what), 0);
        }
        frame("## Promise 2: days");
        says("`int days(int n)`: n DAYS pass (0 to 1000): NOW;");
        due("days(0)", room.days(0), 0);
        due("days(7)", room.days(7), 7);
        due("days(1000)", room.days(1000), 1007);
        says("NONE for another n, beyond 9999.");
        noneBeyond(1001, "days", room::days);
        for (int i = 2; i <= 9; i++) {
            room.days(1000);
        }
        due("days(993)", room.days(993), -1);
        due("NOW", room.count(0), 9007);
        due("days(992)", room.days(992), 9999);
        frame("## Promise 3: view");
        says("`boolean view(int day)`: THE VIEW: true;");
        for (int day : new int[] {0, 1, 9998, 9999}) {
            due("view(" + day + ")", room.view(day), true);
            due("THE VIEW", room.count(1), day);
        }
        says("false: a DAY behind NOW, below 0.");
        for (int day : new int[] {-1, 10000, Integer.MIN_VALUE, Integer.MAX_VALUE}) {
            due("view(" + day + ")", room.view(day), false);
            due("THE VIEW", room.count(1), 9999);
        }
        due("ahead of its time", new WishRoom().view(1), false);
        frame("## Promise 4: feed");
        says("`int feed(long a, long b, long c)`: Up to 24 signs come behind the TAPE: the bytes of a, b, c, of each the highest "
            + "first;");
        room = new WishRoom();
        due("must a ;", room.feed(0x6D75737420612020L, BLANKS, 0x202020202020203BL), 24);
        due("may b; behind it", room.feed(0, 0, 0x6D617920623BL), 30);
        due("law", room.law(), 0);
        due("may b", room.line(1, 0), 1);
        says("others than 10 and 32 .. 126, and what is beyond 1,000, are left out: how many there are.");
        due("none of them", room.feed(0, 0x0102090B1F7F80FFL, -1), 0);
        due("some of them", room.feed(0x1F207E7F0A0B0900L, 0, 0), 3);
        for (int i = 1; i <= 41; i++) {
            room.feed(BLANKS, BLANKS, BLANKS);
        }
        due("beyond 1,000", room.feed(BLANKS, BLANKS, BLANKS), 1000);
        due("and more", room.feed('a', 'b', 'c'), 1000);
        due("signs", room.count(7), 1000);
        frame("## Promise 5: law");
        says("`int law()`: The TAPE is read as a LAW: 0, or its FAULT (all stays then).");
        room = under("must a;", "strike 0;");
        due("a FAULT", law(room, "must b; may;"), 1 + 16 * 11);
        due("LINES", room.rule(0), 1);
        due("WISHES", room.count(2), 1);
        due("a LAW", law(room, "must b; may c;"), 0);
        due("LINES", room.rule(0), 2);
        frame("## Promise 6: wish");
        says("`int wish(int person)`: The TAPE is read as a WISH of a PERSON: 0; its FAULT;");
        due("wish", wish(room, 99, "keep 1;"), 0);
        due("its PERSON", room.look(0, 3), 99);
        due("a FAULT", wish(room, 99, "keep 2;"), 4 + 16 * 5);
        due("WISHES", room.count(2), 1);
        says("-1: no such PERSON, 30 are there (the TAPE is empty).");
        for (int person : new int[] {-1, 100, Integer.MIN_VALUE, Integer.MAX_VALUE}) {
            due("PERSON " + person, wish(room, person, "keep 1;"), -1);
            due("signs", room.count(7), 0);
        }
        wishOften(room, 0, 29, "keep 0;");
        due("a 31st", wish(room, 0, "keep 0;"), -1);
        due("signs", room.count(7), 0);
        due("a 31st with a FAULT", wish(room, 0, "keep"), -1);
        frame("## Promise 7: withdraw");
        says("`boolean withdraw(int wish)`: A WISH is WITHDRAWN: true;");
        due("withdraw(29)", room.withdraw(29), true);
        due("in THE VIEW", room.count(3), 29);
        due("WISHES", room.count(2), 30);
        says("false: none such, it is.");
        for (int wish : new int[] {-1, 30, 29, Integer.MIN_VALUE, Integer.MAX_VALUE}) {
            due("withdraw(" + wish + ")", room.withdraw(wish), false);
        }
        due("WITHDRAWN", room.count(8), 1);
        frame("## Promise 8: house");
        says("`boolean house(int person, int house)`: A PERSON's HOUSE: true; false: none such.");
        room = under("", "add must a;", "add must a;", "add must a;");
        due("house(1, 6)", room.house(1, 6), true);
        due("house(2, 7)", room.house(2, 7), false);
        due("house(2, -1)", room.house(2, -1), false);
        due("house(-1, 3)", room.house(-1, 3), false);
        due("house(100, 3)", room.house(100, 3), false);
        due("HOUSES", room.group(0, 1), 2);
    }

    private static void promises9To15() {
        frame("## Promise 9: allowed");
        says("`int allowed(int world)`: Whether a WORLD is ALLOWED by the LAW: 1 or 0; NONE: none such.");
        WishRoom room = under("may b; must a; may c and not a; must g;", "strike 1;", "add must false;");
        due("allowed(65)", room.allowed(65), 1);
        due("allowed(127)", room.allowed(127), 1);
        due("allowed(64)", room.allowed(64), 0);
        due("allowed(0)", room.allowed(0), 0);
        noneBeyond(128, "allowed", room::allowed);
        frame("## Promise 10: rule");
        says("`int rule(int what)`: Of the LAW, what 0: LINES, 1: WORLDS that are ALLOWED, 2: the kind in which it QUARRELS (0: it "
            + "does not), 3: the LINE of kind 3; NONE: no such LINE, what.");
        int[] ruled = {4, 32, 3, 2};
        for (int what = 0; what < 4; what++) {
            due("rule(" + what + ")", room.rule(what), ruled[what]);
        }
        due("no such LINE", under("may a;").rule(3), -1);
        noneBeyond(4, "rule", room::rule);
        frame("## Promise 11: line");
        says("`int line(int line, int what)`: Of a LINE, what 0: 0 must, 1 may, 1: in how many WORLDS its SAYING is so; NONE: none "
            + "such.");
        due("line(2, 0)", room.line(2, 0), 1);
        due("line(2, 1)", room.line(2, 1), 32);
        due("line(3, 0)", room.line(3, 0), 0);
        noneBeyond(4, "line", line -> room.line(line, 0));
        noneBeyond(4, "worlds of line", line -> room.line(line, 1));
        noneBeyond(2, "line 0, what", what -> room.line(0, what));
        frame("## Promise 12: look");
        says("`int look(int wish, int what)`: Of a WISH, what 0: its GROUP (NONE: not in THE VIEW), 1: 0 strike, 1 keep, 2 change, "
            + "3 add, 2: its LINE (NONE of add), 3: the PERSON; NONE: none such.");
        WishRoom four = under("must a; must b;", "strike 1;", "keep 0;", "change 0 to may b;", "add may g;");
        int[][] looks = {{0, 0, 1, 0}, {1, 1, 0, 1}, {2, 2, 0, 2}, {3, 3, -1, 3}};
        for (int wish = 0; wish < 4; wish++) {
            for (int what = 0; what < 4; what++) {
                due("look(" + wish + ", " + what + ")", four.look(wish, what), looks[wish][what]);
            }
        }
        four.withdraw(2);
        int[] gone = {-1, 2, 0, 2};
        for (int what = 0; what < 4; what++) {
            int asked = what;
            due("look(2, " + what + ")", four.look(2, what), gone[what]);
            noneBeyond(4, "look, what " + what, wish -> four.look(wish, asked));
        }
        noneBeyond(4, "look of 0, what", what -> four.look(0, what));
        frame("## Promise 13: ground");
        says("`int ground(int wish)`: The TAPE is read as a GROUND of a WISH: 0; its FAULT;");
        due("ground", ground(four, 3, "a and b;"), 0);
        due("a FAULT", ground(four, 3, "a and ;"), 1 + 16 * 6);
        due("GROUNDS", four.count(9), 1);
        says("-1: no such WISH, 20 are there (the TAPE is empty).");
        noneBeyond(4, "ground", wish -> ground(four, wish, "a;") * (four.count(7) + 1));
        for (int i = 1; i < 20; i++) {
            due("ground", ground(four, i % 4, i % 2 == 0 ? "b;" : "false;"), 0);
        }
        due("a 21st", ground(four, 0, "a;"), -1);
        due("signs", four.count(7), 0);
        due("GROUNDS", four.count(9), 20);
        frame("## Promise 14: held");
        says("`int held(int ground, int what)`: Of a GROUND, what 0: 1 HELD, 0 not, 1: the first CASE in THE VIEW in which it is "
            + "not so, 2: its WISH; NONE: none such (1: none).");
        due("no CASE", four.held(2, 1), -1);
        four.world(3);
        four.world(1);
        int[][] helds = {{0, 1, 3}, {0, 0, 1}, {0, 1, 2}};
        for (int ground = 0; ground < 3; ground++) {
            for (int what = 0; what < 3; what++) {
                due("held(" + ground + ", " + what + ")", four.held(ground, what), helds[ground][what]);
            }
        }
        noneBeyond(20, "held", ground -> four.held(ground, 0));
        noneBeyond(3, "held of 0, what", what -> four.held(0, what));
        frame("## Promise 15: group");
        says("`int group(int group, int what)`: Of a GROUP, what 0: HANDS, 1: HOUSES, 2: REACH, 3: GROUNDS that are HELD, 4: its "
            + "first WISH, 5: how many WISHES; NONE: none such.");
        WishRoom weighed = fourWeights();
        int[][] weights = {{3, 1, 32, 0, 0, 3}, {2, 2, 32, 0, 3, 2}, {1, 1, 88, 0, 5, 1}, {1, 1, 16, 1, 6, 1}};
        for (int group = 0; group < 4; group++) {
            for (int what = 0; what < 6; what++) {
                due("group(" + group + ", " + what + ")", weighed.group(group, what), weights[group][what]);
            }
        }
        noneBeyond(4, "group", group -> weighed.group(group, 4));
        noneBeyond(6, "group 0, what", what -> weighed.group(0, what));
    }

    private static void promises16To21() {
        frame("## Promise 16: clash");
        says("`int clash(int a, int b)`: CLASH of two GROUPS; NONE: none such, the same.");
        WishRoom room = under("must a;", "strike 0;", "keep 0;", "add must not a;", "add may a;");
        int[][] kinds = {{-1, 1, 0, 0}, {1, -1, 2, 0}, {0, 2, -1, 2}, {0, 0, 2, -1}};
        for (int a = 0; a < 4; a++) {
            for (int b = 0; b < 4; b++) {
                due("clash(" + a + ", " + b + ")", room.clash(a, b), kinds[a][b]);
            }
        }
        noneBeyond(4, "clash with 0", b -> room.clash(0, b));
        noneBeyond(4, "clash with 3", a -> room.clash(a, 3));
        noneBeyond(4, "clash with itself", a -> room.clash(a, a));
        frame("## Promise 17: together");
        says("`int together(int set)`: Whether a set of GROUPS (bits, 0 to 29) GO TOGETHER: 1 or 0; NONE: no such set.");
        int[] goes = {1, 1, 1, 0, 0, 1, 0, 0, 1, 1, 1, 0, 0, 0, 0, 0};
        for (int set = 0; set < 16; set++) {
            due("together(" + set + ")", room.together(set), goes[set]);
        }
        noneBeyond(16, "together", room::together);
        WishRoom thirty = thirty();
        due("all thirty", thirty.together((1 << 30) - 1), 1);
        due("the last", thirty.together(1 << 29), 1);
        due("a 31st", thirty.together(1 << 30), -1);
        frame("## Promise 18: least");
        says("`int least(int n)`: How many LEAST SETS of n (1 to 3) GROUPS there are; NONE: another n.");
        due("least(1)", room.least(1), 1);
        due("least(2)", room.least(2), 1);
        due("least(3)", room.least(3), 0);
        noneBeyond(4, "least", room::least);
        due("least(0)", room.least(0), -1);
        frame("## Promise 19: leastSet");
        says("`int leastSet(int n, int i)`: The i-th of the LEAST SETS of n GROUPS, as bits, in order by their GROUPS; NONE: none "
            + "such.");
        WishRoom many = under("", "add must a;", "add must b;", "add must not a;", "add must not b;", "add must not a and c;",
            "add must not c or not d;", "add must d;", "add must c;");
        int[] twos = {1 + 4, 1 + 16, 2 + 8};
        int[] threes = {16 + 32 + 64, 32 + 64 + 128};
        due("least(2)", many.least(2), 3);
        due("least(3)", many.least(3), 2);
        for (int i = 0; i < 3; i++) {
            due("leastSet(2, " + i + ")", many.leastSet(2, i), twos[i]);
        }
        for (int i = 0; i < 2; i++) {
            due("leastSet(3, " + i + ")", many.leastSet(3, i), threes[i]);
        }
        noneBeyond(0, "leastSet of 1", i -> many.leastSet(1, i));
        noneBeyond(3, "leastSet of 2", i -> many.leastSet(2, i));
        noneBeyond(4, "leastSet of n", n -> many.leastSet(n, 0));
        due("leastSet(0, 0)", many.leastSet(0, 0), -1);
        frame("## Promise 20: draft");
        says("`int draft(int weight, int what)`: DRAFT by a WEIGHT, what 0: the GROUPS as bits, 1: the sum, 2: LINES of it, 3: "
            + "WORLDS that it ALLOWS; NONE: none such, none.");
        WishRoom drafted = under("must a; may b;", "strike 1;", "add must c or d;", "change 0 to must e or f;");
        int[] answers = {7, 3, 2, 72};
        for (int what = 0; what < 4; what++) {
            due("draft(0, " + what + ")", drafted.draft(0, what), answers[what]);
            int asked = what;
            noneBeyond(4, "draft by", weight -> drafted.draft(weight, asked));
            due("no DRAFT", under("must false;", "keep 0;").draft(0, what), -1);
        }
        noneBeyond(4, "draft by 0, what", what -> drafted.draft(0, what));
        frame("## Promise 21: why");
        says("`int why(int wish, int weight, int what)`: WHY of a WISH by the DRAFT of a WEIGHT, what 0: why, 1: the GROUP (of 2; "
            + "NONE else); NONE: none such, not in THE VIEW, no DRAFT.");
        WishRoom asked = under("must a;", "keep 0;", "strike 0;", "add must false;", "keep 0;");
        whyIs(asked, 0, 0, 0, -1);
        whyIs(asked, 1, 0, 2, 0);
        whyIs(asked, 2, 0, 1, -1);
        whyIs(asked, 1, 3, 4, -1);
        noneBeyond(4, "why", wish -> asked.why(wish, 0, 0));
        noneBeyond(4, "why by", weight -> asked.why(0, weight, 0));
        noneBeyond(2, "why, what", what -> asked.why(0, 0, what));
        asked.withdraw(1);
        whyIs(asked, 1, 0, -1, -1);
        whyIs(under("must false;", "keep 0;"), 0, 0, -1, -1);
    }

    /** Thirty GROUPS that go together: GROUP i forbids the world i. */
    private static WishRoom thirty() {
        WishRoom room = under("");
        for (int world = 0; world < 30; world++) {
            wishOften(room, world, 1, "add must not (" + alone(world) + ");");
        }
        return room;
    }

    private static void promises22To25() {
        frame("## Promise 22: vote");
        says("`boolean vote(int house, int group, boolean yes)`: A HOUSE votes for a GROUP (0 to 5, there or not): true;");
        WishRoom room = new WishRoom();
        for (int house = 0; house < 7; house++) {
            for (int group = 0; group < 6; group++) {
                due("vote(" + house + ", " + group + ")", room.vote(house, group, true), true);
            }
        }
        wish(room, 0, "add must a;");
        due("it was there ahead of the GROUP", room.votes(3), 1);
        says("false: none such.");
        for (int far : new int[] {-1, 7, Integer.MIN_VALUE, Integer.MAX_VALUE}) {
            due("HOUSE " + far, room.vote(far, 0, false), false);
            due("GROUP " + far, room.vote(0, far, false), false);
        }
        due("GROUP 6", room.vote(0, 6, false), false);
        due("all as it was", room.votes(3), 1);
        frame("## Promise 23: votes");
        says("`int votes(int what)`: VOTES over all ORDERS, what 0: SURE as bits, 1: MAY as bits, 2: RESULTS, 3: RESULT of the "
            + "ORDER 0, 1, ..; NONE: another what.");
        WishRoom voted = oneOrTwo();
        int[] answers = {0, 7, 2, 1};
        for (int what = 0; what < 4; what++) {
            due("votes(" + what + ")", voted.votes(what), answers[what]);
        }
        noneBeyond(4, "votes", voted::votes);
        frame("## Promise 24: favour");
        says("`int favour(int house, int what)`: FAVOUR, what 0: the most, 1: the fewest, 2: the ORDER (its GROUPS as digits of "
            + "eight, the first one highest); NONE: none such.");
        favours(voted, 3, 2, 1, 0102);
        favours(voted, 4, 0, 0, 0012);
        noneBeyond(7, "favour", house -> voted.favour(house, 0));
        noneBeyond(3, "favour of 0, what", what -> voted.favour(0, what));
        frame("## Promise 25: gain");
        says("`int gain(int house)`: GAIN: the first GROUP on which it could vote otherwise; NONE: none, no such HOUSE.");
        due("gain(3)", voted.gain(3), 0);
        due("gain(4)", voted.gain(4), -1);
        WishRoom second = under("", "add must g;", "add must a;", "add must not a and b;", "add must not a and c;");
        poll(second, 4, 4, 4, 4);
        due("on GROUP 1", second.gain(0), 1);
        noneBeyond(7, "gain", voted::gain);
    }

    private static void promises26To32() {
        frame("## Promise 26: world");
        says("`int world(int world)`: A CASE: its number; NONE: no such WORLD, 40 are there.");
        WishRoom room = new WishRoom();
        for (int number = 0; number < 40; number++) {
            due("world", room.world(number % 2 == 0 ? 127 : 0), number);
        }
        due("a 41st", room.world(1), -1);
        WishRoom fresh = new WishRoom();
        noneBeyond(128, "world", fresh::world);
        due("CASES", fresh.count(5), 0);
        frame("## Promise 27: cases");
        says("`int cases(int weight, int what)`: CASES by the DRAFT of a WEIGHT, what 0: ALLOWED by the LAW and not by it, 1: the "
            + "other way; NONE: none such, no DRAFT.");
        WishRoom both = bothMust();
        due("cases(0, 0)", both.cases(0, 0), 3);
        due("cases(0, 1)", both.cases(0, 1), 0);
        due("by GROUNDS", both.cases(3, 0), 0);
        noneBeyond(4, "cases by", weight -> both.cases(weight, 0));
        noneBeyond(2, "cases, what", what -> both.cases(0, what));
        WishRoom none = under("must false;", "keep 0;");
        none.world(0);
        due("no DRAFT", none.cases(0, 0) + none.cases(0, 1), -2);
        frame("## Promise 28: blamed");
        says("`int blamed(int number, int weight)`: BLAMED (a GROUP) for a CASE (its number) by the DRAFT of a WEIGHT; NONE: none "
            + "such, not in THE VIEW, no DRAFT, not otherwise, none.");
        due("blamed(1, 0)", both.blamed(1, 0), 1);
        due("not otherwise", both.blamed(3, 0), -1);
        due("not otherwise by GROUNDS", both.blamed(1, 3), -1);
        due("none", both.blamed(0, 0), -1);
        due("no DRAFT", none.blamed(0, 0), -1);
        noneBeyond(4, "blamed for", number -> both.blamed(number, 0));
        noneBeyond(4, "blamed by", weight -> both.blamed(1, weight));
        both.days(1);
        both.world(1);
        due("blamed(4, 0)", both.blamed(4, 0), 1);
        both.view(0);
        due("not in THE VIEW", both.blamed(4, 0), -1);
        frame("## Promise 29: idle");
        says("`int idle(int line)`: Whether a LINE is IDLE: 1 or 0; NONE: none such.");
        WishRoom lines = under("must a; may b; must a or b;");
        int[] idle = {0, 0, 1};
        for (int line = 0; line < 3; line++) {
            due("idle(" + line + ")", lines.idle(line), idle[line]);
        }
        noneBeyond(3, "idle", lines::idle);
        frame("## Promise 30: fewest");
        says("`int fewest(int what)`: FEWEST, what 0: how many, 1: as bits; NONE for another what.");
        due("fewest(0)", lines.fewest(0), 2);
        due("fewest(1)", lines.fewest(1), 3);
        noneBeyond(2, "fewest", lines::fewest);
        frame("## Promise 31: beside");
        says("`int beside(int a, int b)`: BESIDE: GROUPS of the DRAFT of WEIGHT a that the one of b leaves out, as bits; NONE: none "
            + "such, no DRAFT.");
        WishRoom beside = under("must a;", "strike 0;", "add may b;", "keep 0;");
        due("by HANDS: strike and add", beside.draft(0, 0), 3);
        due("by REACH: strike", beside.draft(2, 0), 1);
        due("beside(0, 2)", beside.beside(0, 2), 2);
        due("beside(2, 0)", beside.beside(2, 0), 0);
        due("beside(0, 3)", beside.beside(0, 3), 3);
        noneBeyond(4, "beside 0", b -> beside.beside(0, b));
        noneBeyond(4, "beside", a -> beside.beside(a, 0));
        due("no DRAFT", none.beside(0, 1), -1);
        counts();
    }

    private static void counts() {
        frame("## Promise 32: count");
        says("`int count(int what) throws NoSuchElementException`: What 0: NOW, 1: THE VIEW, 2: WISHES, 3: those in THE VIEW, 4: "
            + "GROUPS, 5: CASES, 6: those in THE VIEW, 7: signs on the TAPE, 8: WITHDRAWN, 9: GROUNDS.");
        WishRoom room = under("must a;", "keep 0;", "strike 0;", "strike 0;", "keep 0;", "add must b;");
        room.world(1);
        room.world(2);
        room.withdraw(4);
        room.days(5);
        wish(room, 0, "add must b;");
        for (int world = 0; world < 7; world++) {
            room.world(world);
        }
        for (int ground = 0; ground < 8; ground++) {
            ground(room, 0, "a;");
        }
        room.days(6);
        room.withdraw(0);
        room.withdraw(3);
        room.view(3);
        tell(room, "must a;");
        int[] counted = {11, 3, 6, 4, 2, 9, 2, 7, 3, 8};
        for (int what = 0; what < 10; what++) {
            due("count(" + what + ")", room.count(what), counted[what]);
        }
        says("NoSuchElementException: another what.");
        for (int what : new int[] {-1, 10, 11, Integer.MIN_VALUE, Integer.MAX_VALUE}) {
            boolean thrown = false;
            try {
                room.count(what);
            } catch (NoSuchElementException e) {
                thrown = true;
            }
            due("count(" + what + ") throws", thrown, true);
        }
        due("all as it was", room.count(2), 6);
    }

    private static void notPromised() {
        frame("## Not promised");
        frame("How the state is held inside the object is free, as are the speed of each call, the text of toString and the "
            + "behaviour of equals and hashCode. Use of one object from several threads at once is not promised to be safe. "
            + "Nothing is promised beyond the answers and state changes described above, and nothing about an object after its "
            + "512th call.");
    }
}
