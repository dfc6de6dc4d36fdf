import java.util.NoSuchElementException;

/** One method for each promise of the document: ordinary calls, the edges that it names, and wrong calls. */
public final class PromiseTest extends Letters {
    private static final int LEAST_INT = Integer.MIN_VALUE;
    private static final int GREATEST_INT = Integer.MAX_VALUE;
    private static int wrong = 0;
    private static int checks = 0;
    private static String promise = "";

    public static void main(String[] args) {
        newObject();
        days();
        view();
        feed();
        law();
        lawFaults();
        lawLimits();
        wish();
        withdraw();
        house();
        allowed();
        rule();
        line();
        look();
        ground();
        held();
        group();
        groupsOfTheSame();
        clash();
        together();
        least();
        leastSet();
        draft();
        draftTies();
        why();
        vote();
        votes();
        favour();
        gain();
        world();
        cases();
        blamed();
        idle();
        fewest();
        beside();
        count();
        System.out.println(checks + " checks, " + wrong + " wrong");
        if (wrong != 0) {
            System.exit(1);
        }
    }

    // ---- helpers

    private static void due(String call, long got, long want) {
        checks++;
        if (got != want) {
            wrong++;
            System.out.println(promise + ": " + call + " answered " + got + ", due is " + want);
        }
    }

    private static void due(String call, boolean got, boolean want) {
        due(call, got ? 1 : 0, want ? 1 : 0);
    }

    private static WishRoom under(String law, String... wishes) {
        WishRoom room = new WishRoom();
        due("law " + law, law(room, law), 0);
        for (int i = 0; i < wishes.length; i++) {
            due("wish " + wishes[i], wish(room, i, wishes[i]), 0);
        }
        return room;
    }

    /** The first houses vote yes, so many for each group. */
    private static void yes(WishRoom room, int... houses) {
        for (int group = 0; group < houses.length; group++) {
            for (int house = 0; house < houses[group]; house++) {
                room.vote(house, group, true);
            }
        }
    }

    // ---- the promises

    private static void newObject() {
        promise = "1 new object";
        WishRoom room = new WishRoom();
        for (int what = 0; what < 10; what++) {
            due("count(" + what + ")", room.count(what), 0);
        }
        due("rule(0)", room.rule(0), 0);
        due("rule(1)", room.rule(1), 128);
        due("NONE", WishRoom.NONE, -1);
    }

    private static void days() {
        promise = "2 days";
        WishRoom room = new WishRoom();
        due("days(0)", room.days(0), 0);
        due("days(1000)", room.days(1000), 1000);
        due("days(1001)", room.days(1001), -1);
        due("days(-1)", room.days(-1), -1);
        due("days(least)", room.days(LEAST_INT), -1);
        due("days(greatest)", room.days(GREATEST_INT), -1);
        for (int i = 2; i <= 9; i++) {
            due("days(1000)", room.days(1000), i * 1000);
        }
        due("days(1000) beyond 9999", room.days(1000), -1);
        due("days(999)", room.days(999), 9999);
        due("days(1) on 9999", room.days(1), -1);
        due("days(0) on 9999", room.days(0), 9999);
    }

    private static void view() {
        promise = "3 view";
        WishRoom room = new WishRoom();
        due("view(0)", room.view(0), true);
        due("view(1) behind NOW", room.view(1), false);
        due("view(-1)", room.view(-1), false);
        room.days(5);
        due("THE VIEW goes with NOW", room.count(1), 5);
        due("view(3)", room.view(3), true);
        room.days(2);
        due("THE VIEW stays", room.count(1), 3);
        due("view(8)", room.view(8), false);
        due("THE VIEW stays", room.count(1), 3);
        due("view(7), NOW", room.view(7), true);
        room.days(1);
        due("THE VIEW goes with NOW again", room.count(1), 8);
        room = under("must a;", "strike 0;");
        room.days(4);
        wish(room, 1, "add must b;");
        room.withdraw(0);
        room.world(3);
        room.view(3);
        due("a wish told behind it is not in it", room.look(1, 0), -1);
        due("a wish withdrawn behind it is in it", room.look(0, 0), 0);
        due("a case told behind it is not in it", room.count(6), 0);
        room.view(4);
        due("a wish told on it is in it", room.look(1, 0), 0);
        due("a wish withdrawn on it is not", room.look(0, 0), -1);
        due("a case told on it is in it", room.count(6), 1);
    }

    private static void feed() {
        promise = "4 feed";
        WishRoom room = new WishRoom();
        due("nothing but zeros", room.feed(0, 0, 0), 0);
        due("highest byte first", room.feed(0x6D75737420610000L, 0L, 0x3B00000000000000L), 7);
        due("it reads must a;", room.law(), 0);
        due("line(0, 1)", room.line(0, 1), 64);
        due("10, 32 and 126 count", room.feed(0x0A207E0000000000L, 0, 0), 3);
        due("9, 11, 31, 127, 128, 255 are left out", room.feed(0x090B1F7F80FF0D00L, 0, 0), 3);
        due("all ones are left out", room.feed(-1L, -1L, -1L), 3);
        room = new WishRoom();
        long blanks = 0x2020202020202020L;
        for (int i = 1; i <= 41; i++) {
            due("24 more", room.feed(blanks, blanks, blanks), 24L * i);
        }
        due("1000 at most", room.feed(blanks, blanks, blanks), 1000);
        due("1000 at most", room.feed(blanks, 0, 0), 1000);
        due("1000 blanks are a law", room.law(), 0);
        room = new WishRoom();
        tell(room, " ".repeat(996) + "may a;");
        due("what is beyond is left out", room.law(), 1 + 16 * 1000);
    }

    private static void law() {
        promise = "5 law";
        WishRoom room = new WishRoom();
        due("nothing", room.law(), 0);
        due("blanks", law(room, " \n "), 0);
        String[] sayings = {"a", "true", "false", "not g", "a or b and c", "(a or b) and c", "not a or b", "not (a or b)",
            "most 2 of (a b c)", "least 2 of(g a c)", "most 0 of (a)", "least 7 of (a b c d e f g)", "most 7 of (d)",
            "least 0 of (e)", "not not a", "a and a and b", "a or b or not a", "most 003 of(a b c d e f g)",
            "a\nor\nb", "((((a))))", "not(not a)"};
        int[] worlds = {64, 128, 0, 64, 80, 48, 96, 32, 112, 64, 64, 1, 128, 128, 64, 32, 128, 64, 96, 64, 64};
        for (int i = 0; i < sayings.length; i++) {
            due("must " + sayings[i], law(room, "must " + sayings[i] + ";"), 0);
            due("worlds of " + sayings[i], room.line(0, 1), worlds[i]);
        }
        due("five of not and ( )", law(room, "must not(not(not a));"), 0);
        due("most within five", law(room, "must not not not not not most 1 of (a b);"), 0);
        room = under("must a; may b;", "strike 0;", "keep 1;");
        ground(room, 0, "a;");
        room.world(1);
        room.house(0, 3);
        room.days(2);
        yes(room, 7);
        due("a fault", law(room, "must a; may"), 1 + 16 * 11);
        due("LINES stay", room.rule(0), 2);
        due("WISHES stay", room.count(2), 2);
        due("VOTES stay", room.votes(3), 1);
        due("the TAPE is empty", room.count(7), 0);
        due("another law", law(room, "must b;"), 0);
        due("LINES", room.rule(0), 1);
        due("WISHES are gone", room.count(2), 0);
        due("GROUNDS are gone", room.count(9), 0);
        due("GROUPS are gone", room.count(4), 0);
        due("CASES stay", room.count(5), 1);
        wish(room, 0, "strike 0;");
        wish(room, 1, "strike 0;");
        due("PERSONS stay in their HOUSES", room.group(0, 1), 2);
        due("VOTES are gone", room.votes(3), 0);
        for (int house = 0; house < 7; house++) {
            due("VOTES of house " + house + " are gone", room.favour(house, 0), 0);
        }
        for (int turned = 0; turned < 7; turned++) {
            yes(room, 7);
            law(room, "must b;");
            wish(room, 0, "strike 0;");
            for (int house = 0; house < 4; house++) {
                room.vote((turned + house) % 7, 0, house != 0);
            }
            due("three votes are no majority", room.votes(3), 0);
        }
    }

    private static void fault(String text, int kind, int place) {
        WishRoom room = new WishRoom();
        due("law of " + text, law(room, text), kind + 16L * place);
        due("TAPE after " + text, room.count(7), 0);
    }

    private static void lawFaults() {
        promise = "5 law, faults";
        fault("a;", 1, 0);
        fault("must", 1, 4);
        fault("must ;", 1, 5);
        fault("must  ", 1, 6);
        fault("must a", 1, 6);
        fault("must a ", 1, 7);
        fault("must a;;", 1, 7);
        fault("must a b;", 1, 7);
        fault("must a or;", 1, 9);
        fault("must (a;", 1, 7);
        fault("must a);", 1, 6);
        fault("must ();", 1, 6);
        fault("must h;", 1, 5);
        fault("must ab;", 1, 5);
        fault("must A;", 1, 5);
        fault("must a, b;", 1, 6);
        fault("Must a;", 1, 0);
        fault("must 3;", 1, 5);
        fault("musta;", 1, 0);
        fault("mayz a;", 1, 0);
        fault("must a1;", 1, 6);
        fault("must abcdefgh;", 1, 5);
        fault("must abcdefghi;", 1, 5);
        fault("must a; keep 0;", 1, 8);
        fault("must most of (a);", 1, 10);
        fault("must most a of (a);", 1, 10);
        fault("must most 1 (a);", 1, 12);
        fault("must most 1 of a;", 1, 15);
        fault("must most 1 of ();", 1, 16);
        fault("must most 1 of (true);", 1, 16);
        fault("must most 1 of (a or b);", 1, 18);
        fault("must most 1 of (a;", 1, 17);
        fault("must most 1of(a)", 1, 16);
        fault("must least 1234 of (a);", 1, 11);
        fault("must least 8 of (a);", 4, 11);
        fault("must least 999 of (a);", 4, 11);
        fault("must most 1 of (a b a);", 3, 20);
        fault("must most 1 of (g g", 3, 18);
        fault("must most 1 of (a b c d e f g b);", 3, 30);
        fault("must most 9 of (a a);", 4, 10);
    }

    private static void lawLimits() {
        promise = "5 law, limits";
        fault("must not not not not not not a;", 5, 29);
        fault("must not not not not not not not a;", 5, 29);
        fault("must not not not not not not;", 1, 28);
        fault("must not not not not not not", 1, 28);
        fault("must not not not not not not h;", 1, 29);
        fault("must not not not not not not 5;", 1, 29);
        fault("must ((((((a))))));", 5, 11);
        fault("must (((((((a", 5, 11);
        fault("must ((((((most 1 of (a)", 5, 11);
        fault("must not(not(not(true and false", 5, 17);
        fault("may a;".repeat(12) + "may a;", 5, 72);
        fault("may a;".repeat(12) + "must", 5, 72);
        fault("may a;".repeat(12) + "keep", 1, 72);
        fault("may a;".repeat(11) + "may h;" + "may a;", 1, 70);
        WishRoom room = new WishRoom();
        due("12 LINES", law(room, "may a;".repeat(12)), 0);
        due("rule(0)", room.rule(0), 12);
        due("a wish may add one", wish(room, 0, "add must b;"), 0);
        due("LINES of the draft", room.draft(0, 2), 13);
        due("five within", law(room, "must (((((a)))));"), 0);
        due("five nots", law(room, "must not not not not not a;"), 0);
        due("next to each other they do not add up", law(room, "must (not a) and (not b) and not (c or (d));"), 0);
    }

    private static void wishFault(String text, int kind, int place) {
        WishRoom room = under("must a; may b;");
        due("wish of " + text, wish(room, 0, text), kind + 16L * place);
        due("WISHES", room.count(2), 0);
        due("TAPE after " + text, room.count(7), 0);
    }

    private static void wish() {
        promise = "6 wish";
        WishRoom room = under("must a; may b;", "strike 0;", "keep 1;", "change 1 to must c;", "add may d;", "strike0;",
            "change 0to may a;");
        due("WISHES", room.count(2), 6);
        tell(room, "strike 0;");
        due("person -1", room.wish(-1), -1);
        due("the TAPE is empty", room.count(7), 0);
        due("person 100", wish(room, 100, "strike 0;"), -1);
        due("person 99", wish(room, 99, "strike 0;"), 0);
        due("nothing", room.wish(0), 1);
        wishFault("drop 0;", 1, 0);
        wishFault("must a;", 1, 0);
        wishFault("strike;", 1, 6);
        wishFault("strike a;", 1, 7);
        wishFault("strike 2;", 4, 7);
        wishFault("keep 999;", 4, 5);
        wishFault("keep 1000;", 1, 5);
        wishFault("keep 1", 1, 6);
        wishFault("keep 1;;", 1, 7);
        wishFault("keep 1; keep 0;", 1, 8);
        wishFault("change 0 must a;", 1, 9);
        wishFault("change 0 to a;", 1, 12);
        wishFault("change 2 to h;", 4, 7);
        wishFault("change 0 to must a", 1, 18);
        wishFault("change 0 to must a; may b;", 1, 20);
        wishFault("add 0;", 1, 4);
        wishFault("add must most 8 of (a);", 4, 14);
        wishFault("add must most 1 of (a a);", 3, 22);
        wishFault("add must not not not not not not a;", 5, 33);
        wishFault("add must a; =", 1, 12);
        room = under("must a;");
        for (int i = 0; i < 30; i++) {
            due("wish " + i, wish(room, i, "add may a;"), 0);
        }
        tell(room, "add may a;");
        due("the 31st", room.wish(0), -1);
        due("the TAPE is empty", room.count(7), 0);
        room.withdraw(3);
        due("withdrawn ones are there", wish(room, 0, "add may a;"), -1);
        due("WISHES", room.count(2), 30);
    }

    private static void withdraw() {
        promise = "7 withdraw";
        WishRoom room = under("must a;", "strike 0;", "strike 0;");
        due("withdraw(2)", room.withdraw(2), false);
        due("withdraw(-1)", room.withdraw(-1), false);
        due("withdraw(0)", room.withdraw(0), true);
        due("withdraw(0) again", room.withdraw(0), false);
        due("first of the group", room.group(0, 4), 1);
        due("WISHES", room.count(2), 2);
        room.days(1);
        due("withdraw(1)", room.withdraw(1), true);
        due("GROUPS", room.count(4), 0);
        room.view(0);
        due("told and withdrawn on one day", room.look(0, 0), -1);
        due("withdrawn behind THE VIEW", room.look(1, 0), 0);
        due("once, in whatever VIEW", room.withdraw(1), false);
    }

    private static void house() {
        promise = "8 house";
        WishRoom room = under("must a;", "strike 0;", "strike 0;", "strike 0;");
        due("all of house 0", room.group(0, 1), 1);
        due("house(0, 6)", room.house(0, 6), true);
        due("two houses", room.group(0, 1), 2);
        due("house(2, 3)", room.house(2, 3), true);
        due("three houses", room.group(0, 1), 3);
        due("house(0, 0)", room.house(0, 0), true);
        due("two houses", room.group(0, 1), 2);
        due("house(99, 0)", room.house(99, 0), true);
        due("house(100, 0)", room.house(100, 0), false);
        due("house(-1, 0)", room.house(-1, 0), false);
        due("house(0, 7)", room.house(0, 7), false);
        due("house(0, -1)", room.house(0, -1), false);
        due("two houses", room.group(0, 1), 2);
    }

    private static void allowed() {
        promise = "9 allowed";
        WishRoom room = under("must a or g; may not a and not g; must not (a and g);");
        due("allowed(0)", room.allowed(0), 0);
        due("allowed(1)", room.allowed(1), 1);
        due("allowed(63)", room.allowed(63), 1);
        due("allowed(64)", room.allowed(64), 1);
        due("allowed(65)", room.allowed(65), 0);
        due("allowed(126)", room.allowed(126), 1);
        due("allowed(127)", room.allowed(127), 0);
        due("allowed(128)", room.allowed(128), -1);
        due("allowed(-1)", room.allowed(-1), -1);
        due("allowed(greatest)", room.allowed(GREATEST_INT), -1);
        due("without LINES", new WishRoom().allowed(77), 1);
    }

    private static void rule() {
        promise = "10 rule";
        WishRoom room = under("may b; must a; may a and c;");
        due("LINES", room.rule(0), 3);
        due("WORLDS", room.rule(1), 64);
        due("no quarrel", room.rule(2), 0);
        due("no line", room.rule(3), -1);
        due("rule(4)", room.rule(4), -1);
        due("rule(-1)", room.rule(-1), -1);
        law(room, "may b; must a; may not a; may false;");
        due("kind 3", room.rule(2), 3);
        due("the first such", room.rule(3), 2);
        law(room, "may a; must a; must not a;");
        due("kind 2", room.rule(2), 2);
        due("no line of kind 3", room.rule(3), -1);
        due("no world", room.rule(1), 0);
    }

    private static void line() {
        promise = "11 line";
        WishRoom room = under("may b and a; must true; must g;");
        due("line(0, 0)", room.line(0, 0), 1);
        due("line(0, 1)", room.line(0, 1), 32);
        due("line(1, 0)", room.line(1, 0), 0);
        due("line(1, 1)", room.line(1, 1), 128);
        due("line(2, 1)", room.line(2, 1), 64);
        due("line(3, 0)", room.line(3, 0), -1);
        due("line(-1, 0)", room.line(-1, 0), -1);
        due("line(0, 2)", room.line(0, 2), -1);
        due("line(0, -1)", room.line(0, -1), -1);
    }

    private static void look() {
        promise = "12 look";
        WishRoom room = under("must a; may b;", "strike 1;", "keep 1;", "change 0 to may c;");
        wish(room, 77, "add must d;");
        int[][] want = {{0, 0, 1, 0}, {1, 1, 1, 1}, {2, 2, 0, 2}, {3, 3, -1, 77}};
        for (int wish = 0; wish < 4; wish++) {
            for (int what = 0; what < 4; what++) {
                due("look(" + wish + ", " + what + ")", room.look(wish, what), want[wish][what]);
            }
        }
        due("look(0, 4)", room.look(0, 4), -1);
        due("look(0, -1)", room.look(0, -1), -1);
        due("look(4, 1)", room.look(4, 1), -1);
        due("look(-1, 1)", room.look(-1, 1), -1);
        room.withdraw(3);
        due("not in THE VIEW", room.look(3, 0), -1);
        due("its verb is told all the same", room.look(3, 1), 3);
        due("its person, too", room.look(3, 3), 77);
    }

    private static void ground() {
        promise = "13 ground";
        WishRoom room = under("must a;", "strike 0;");
        due("a ground", ground(room, 0, "a or b;"), 0);
        due("GROUNDS", room.count(9), 1);
        due("nothing", room.ground(0), 1);
        due("no semicolon", ground(room, 0, "a"), 1 + 16);
        due("something behind", ground(room, 0, "a; b"), 1 + 16 * 3);
        due("a line", ground(room, 0, "must a;"), 1);
        due("a number", ground(room, 0, "most 8 of (a);"), 4 + 16 * 5);
        due("an atom twice", ground(room, 0, "most 1 of (a a);"), 3 + 16 * 13);
        due("too deep", ground(room, 0, "((((((a))))));"), 5 + 16 * 6);
        due("GROUNDS", room.count(9), 1);
        due("no such wish", ground(room, 1, "a;"), -1);
        due("the TAPE is empty", room.count(7), 0);
        due("no such wish", ground(room, -1, "a;"), -1);
        room.withdraw(0);
        due("of a wish that is withdrawn", ground(room, 0, "a;"), 0);
        for (int i = 2; i < 20; i++) {
            due("ground " + i, ground(room, 0, "a;"), 0);
        }
        tell(room, "a;");
        due("the 21st", room.ground(0), -1);
        due("the TAPE is empty", room.count(7), 0);
        due("GROUNDS", room.count(9), 20);
    }

    private static void held() {
        promise = "14 held";
        WishRoom room = under("must a;", "strike 0;", "keep 0;");
        ground(room, 1, "a;");
        ground(room, 0, "true;");
        ground(room, 0, "g;");
        due("no case", room.held(1, 0), 0);
        due("no case against it", room.held(1, 1), -1);
        room.world(65);
        room.days(1);
        room.world(3);
        room.world(0);
        due("not held", room.held(0, 0), 0);
        due("the first case against it", room.held(0, 1), 2);
        due("held", room.held(1, 0), 1);
        due("none against it", room.held(1, 1), -1);
        due("the first of two", room.held(2, 1), 1);
        due("its wish", room.held(0, 2), 1);
        due("its wish", room.held(2, 2), 0);
        room.view(0);
        due("held in an earlier VIEW", room.held(0, 0), 1);
        due("held in an earlier VIEW", room.held(2, 0), 1);
        due("held(3, 0)", room.held(3, 0), -1);
        due("held(-1, 0)", room.held(-1, 0), -1);
        due("held(0, 3)", room.held(0, 3), -1);
        due("held(0, -1)", room.held(0, -1), -1);
    }

    private static void group() {
        promise = "15 group";
        WishRoom room = under("must a; may b;");
        wish(room, 7, "strike 0;");
        wish(room, 99, "change 0 to must true;");
        wish(room, 7, "strike 0;");
        wish(room, 64, "add must b;");
        wish(room, 0, "change 0 to must a or b;");
        room.house(7, 2);
        ground(room, 0, "a;");
        ground(room, 2, "b;");
        ground(room, 2, "a and b;");
        ground(room, 3, "a;");
        room.world(1);
        int[][] want = {{2, 2, 64, 1, 0, 3}, {1, 1, 32, 1, 3, 1}, {1, 1, 32, 0, 4, 1}};
        for (int group = 0; group < 3; group++) {
            for (int what = 0; what < 6; what++) {
                due("group(" + group + ", " + what + ")", room.group(group, what), want[group][what]);
            }
        }
        due("group(3, 0)", room.group(3, 0), -1);
        due("group(-1, 0)", room.group(-1, 0), -1);
        due("group(0, 6)", room.group(0, 6), -1);
        due("group(0, -1)", room.group(0, -1), -1);
        room.withdraw(0);
        due("hands without the first", room.group(0, 0), 2);
        for (int person : new int[] {0, 63, 64, 98, 35, 99}) {
            wish(room, person, "strike 0;");
        }
        due("hands of far persons", room.group(0, 0), 7);
        due("first", room.group(0, 4), 1);
        due("its grounds go with it", room.group(0, 3), 0);
    }

    private static void groupsOfTheSame() {
        promise = "15 group, SAME";
        WishRoom room = under("must a; may b; must a; may b;",
            "strike 0;", "strike 2;", "keep 0;", "keep 2;", "strike 1;", "strike 3;", "change 1 to may b or false;",
            "change 0 to must a and b;", "add must b;", "add may not not b;", "add may b and a;", "keep 2;",
            "add must true;");
        int[] want = {0, 0, 1, 2, 0, 0, 0, 3, 3, 0, 4, 2, 0};
        for (int wish = 0; wish < want.length; wish++) {
            due("group of wish " + wish, room.look(wish, 0), want[wish]);
        }
        room = under("must a; may a;", "add may true;", "change 1 to may true;", "strike 1;", "change 1 to must true;",
            "add may a; ");
        due("mays are told apart though allowed worlds are the same", room.look(0, 0), 0);
        due("another set of mays", room.look(1, 0), 1);
        due("no may", room.look(2, 0), 2);
        due("a must that is always so is no line", room.look(3, 0), 2);
        due("the same may twice", room.look(4, 0), 3);
    }

    private static void clash() {
        promise = "16 clash";
        WishRoom room = under("must a or b; may c;", "keep 0;", "strike 0;", "change 0 to must a;", "add must not c;",
            "add must not a;", "change 0 to must b;", "strike 1;");
        int[][] want = {
            {-1, 1, 1, 3, 0, 1, 0},
            {1, -1, 1, 3, 0, 1, 0},
            {1, 1, -1, 3, 2, 1, 0},
            {3, 3, 3, -1, 3, 3, 0},
            {0, 0, 2, 3, -1, 0, 0},
            {1, 1, 1, 3, 0, -1, 0},
            {0, 0, 0, 0, 0, 0, -1}};
        for (int a = 0; a < 7; a++) {
            for (int b = 0; b < 7; b++) {
                due("clash(" + a + ", " + b + ")", room.clash(a, b), want[a][b]);
            }
        }
        due("clash(0, 7)", room.clash(0, 7), -1);
        due("clash(7, 0)", room.clash(7, 0), -1);
        due("clash(-1, 0)", room.clash(-1, 0), -1);
        due("clash(0, -1)", room.clash(0, -1), -1);
    }

    private static void together() {
        promise = "17 together";
        WishRoom room = under("", "add must a or b;", "add must not a;", "add must not b;");
        int[] want = {1, 1, 1, 1, 1, 1, 1, 0};
        for (int set = 0; set < 8; set++) {
            due("together(" + set + ")", room.together(set), want[set]);
        }
        due("together(8)", room.together(8), -1);
        due("together(-1)", room.together(-1), -1);
        due("together(least)", room.together(LEAST_INT), -1);
        due("together(greatest)", room.together(GREATEST_INT), -1);
        room = under("must false;", "strike 0;");
        due("the law quarrels", room.together(0), 0);
        due("it mends it", room.together(1), 1);
        room = thirty();
        due("thirty groups", room.count(4), 30);
        due("all of them", room.together((1 << 30) - 1), 0);
        due("the last ones", room.together(3 << 28), 1);
        due("bit 30", room.together(1 << 30), -1);
    }

    /** Thirty groups, one for each world 0 to 29, which is forbidden; the last one allows no other world but 127. */
    private static WishRoom thirty() {
        WishRoom room = under("may not a and not b and not c and not d and not e and not f and not g;");
        for (int world = 0; world < 30; world++) {
            StringBuilder text = new StringBuilder("add must not(");
            for (int atom = 0; atom < 7; atom++) {
                text.append(atom == 0 ? "" : " and ").append((world >> atom) % 2 == 1 ? "" : "not ");
                text.append((char) ('a' + atom));
            }
            due("wish", wish(room, world, text + ");"), 0);
        }
        return room;
    }

    private static void least() {
        promise = "18 least";
        WishRoom room = under("may c;", "add must a or b;", "add must not a;", "add must not b;", "add must not c;",
            "add must c;");
        due("of one", room.least(1), 1);
        due("of two", room.least(2), 0);
        due("of three", room.least(3), 1);
        due("least(0)", room.least(0), -1);
        due("least(4)", room.least(4), -1);
        due("least(-1)", room.least(-1), -1);
        room = under("must a; must not a;", "add must b;", "strike 0;");
        due("the law itself does not go", room.least(1), 0);
        due("the law itself does not go", room.least(2), 0);
        room = thirty();
        due("thirty", room.least(1), 1);
        due("thirty", room.least(2), 0);
        due("thirty", room.least(3), 0);
    }

    private static void leastSet() {
        promise = "19 leastSet";
        WishRoom room = under("", "add must a;", "add must b;", "add must not b;", "add must not a;", "add must false;",
            "add must not (a and c);", "add must c;");
        due("leastSet(1, 0)", room.leastSet(1, 0), 16);
        due("leastSet(1, 1)", room.leastSet(1, 1), -1);
        due("by the groups, not by the number", room.leastSet(2, 0), 1 | 8);
        due("leastSet(2, 1)", room.leastSet(2, 1), 2 | 4);
        due("leastSet(2, 2)", room.leastSet(2, 2), -1);
        due("leastSet(3, 0)", room.leastSet(3, 0), 1 | 32 | 64);
        due("leastSet(3, 1)", room.leastSet(3, 1), -1);
        due("leastSet(2, -1)", room.leastSet(2, -1), -1);
        due("leastSet(0, 0)", room.leastSet(0, 0), -1);
        due("leastSet(4, 0)", room.leastSet(4, 0), -1);
        due("leastSet(2, greatest)", room.leastSet(2, GREATEST_INT), -1);
    }

    private static void draft() {
        promise = "20 draft";
        WishRoom room = under("must a or b; may c;", "strike 0;", "keep 0;", "keep 0;", "add must d;");
        int[][] want = {{6, 3, 3, 48}, {5, 2, 2, 64}, {5, 80, 2, 64}, {0, 0, 2, 96}};
        for (int weight = 0; weight < 4; weight++) {
            for (int what = 0; what < 4; what++) {
                due("draft(" + weight + ", " + what + ")", room.draft(weight, what), want[weight][what]);
            }
        }
        due("draft(0, 4)", room.draft(0, 4), -1);
        due("draft(0, -1)", room.draft(0, -1), -1);
        due("draft(4, 0)", room.draft(4, 0), -1);
        due("draft(-1, 0)", room.draft(-1, 0), -1);
        ground(room, 1, "d;");
        ground(room, 2, "d;");
        ground(room, 0, "d;");
        room.world(8);
        due("by grounds", room.draft(3, 0), 2);
        due("their sum", room.draft(3, 1), 2);
        law(room, "must false;");
        due("none mends it", room.draft(0, 0), -1);
        wish(room, 0, "add must a;");
        due("none mends it", room.draft(0, 1), -1);
        wish(room, 0, "change 0 to may a;");
        due("one mends it", room.draft(0, 0), 3);
        due("LINES", room.draft(0, 2), 2);
        due("by reach", room.draft(2, 1), 128);
    }

    private static void draftTies() {
        promise = "20 draft, ties";
        WishRoom room = under("must a;", "keep 0;", "change 0 to must b;", "change 0 to must c;", "add must d;");
        due("of equal ones the least number", room.draft(0, 0), 1 | 8);
        due("of equal ones the fewest", room.draft(3, 0), 0);
        wish(room, 50, "strike 0;");
        wish(room, 51, "strike 0;");
        due("the greatest sum", room.draft(0, 0), 8 | 16);
        room = under("");
        for (int i = 0; i < 14; i++) {
            String more = i < 7 ? "" : " and true";
            wish(room, i, "add may " + (char) ('a' + i % 7) + (i < 7 ? "" : " and not " + (char) ('a' + (i + 1) % 7)) + more
                + ";");
        }
        due("groups", room.count(4), 14);
        due("no more than the first 12", room.draft(0, 0), 4095);
        due("sum", room.draft(0, 1), 12);
        due("LINES", room.draft(0, 2), 12);
    }

    private static void why() {
        promise = "21 why";
        WishRoom room = under("may c;", "add must a or b;", "add must not a;", "add must not b;", "add must not c;",
            "keep 0;", "strike 0;");
        wish(room, 70, "add must not a;");
        wish(room, 71, "add must not b;");
        wish(room, 72, "keep 0;");
        due("the draft", room.draft(0, 0), 2 | 4 | 16);
        int[][] want = {{3, -1}, {0, -1}, {0, -1}, {1, -1}, {0, -1}, {2, 4}, {0, -1}, {0, -1}, {0, -1}};
        for (int wish = 0; wish < want.length; wish++) {
            due("why(" + wish + ", 0, 0)", room.why(wish, 0, 0), want[wish][0]);
            due("why(" + wish + ", 0, 1)", room.why(wish, 0, 1), want[wish][1]);
        }
        due("by grounds: 4", room.why(0, 3, 0), 4);
        due("by grounds: 4", room.why(0, 3, 1), -1);
        due("why(9, 0, 0)", room.why(9, 0, 0), -1);
        due("why(-1, 0, 0)", room.why(-1, 0, 0), -1);
        due("why(0, 4, 0)", room.why(0, 4, 0), -1);
        due("why(0, -1, 0)", room.why(0, -1, 0), -1);
        due("why(0, 0, 2)", room.why(0, 0, 2), -1);
        due("why(0, 0, -1)", room.why(0, 0, -1), -1);
        room.withdraw(0);
        due("not in THE VIEW", room.why(0, 0, 0), -1);
        room = under("must false;", "keep 0;");
        due("no DRAFT", room.why(0, 0, 0), -1);
        room = thirty();
        due("no draft has it, though it goes", room.why(12, 0, 0), 4);
    }

    private static void vote() {
        promise = "22 vote";
        WishRoom room = under("", "add must a;");
        for (int house = 3; house < 7; house++) {
            due("no majority yet", room.votes(3), 0);
            due("vote(" + house + ", 0, true)", room.vote(house, 0, true), true);
        }
        due("a majority", room.votes(3), 1);
        due("vote(4, 0, false)", room.vote(4, 0, false), true);
        due("no majority", room.votes(3), 0);
        due("vote(0, 5, true), not there", room.vote(0, 5, true), true);
        due("vote(7, 0, true)", room.vote(7, 0, true), false);
        due("vote(-1, 0, true)", room.vote(-1, 0, true), false);
        due("vote(0, 6, true)", room.vote(0, 6, true), false);
        due("vote(0, -1, true)", room.vote(0, -1, true), false);
        room = under("");
        yes(room, 7, 7);
        wish(room, 0, "add must a;");
        wish(room, 0, "add must b;");
        due("votes told ahead of the groups", room.votes(3), 3);
    }

    private static void votes() {
        promise = "23 votes";
        WishRoom room = under("", "add must a or b;", "add must not a;", "add must not b;", "add must c;", "add must false;",
            "add must d;", "add must e;");
        yes(room, 4, 4, 4, 7, 7, 3);
        due("SURE", room.votes(0), 8);
        due("MAY", room.votes(1), 15);
        due("RESULTS", room.votes(2), 3);
        due("in order", room.votes(3), 1 | 2 | 8);
        due("votes(4)", room.votes(4), -1);
        due("votes(-1)", room.votes(-1), -1);
        room = under("must false;", "add must a;", "strike 0;");
        yes(room, 7, 7);
        due("the order counts", room.votes(3), 2);
        due("one order has both", room.votes(1), 3);
        due("RESULTS", room.votes(2), 2);
        due("SURE", room.votes(0), 2);
    }

    private static void favour() {
        promise = "24 favour";
        WishRoom room = under("", "add must a;", "add must not a and b;", "add must not a and c;", "add must d;");
        yes(room, 4, 4, 4, 4);
        room.vote(5, 1, true);
        room.vote(5, 2, true);
        room.vote(6, 0, true);
        room.vote(6, 5, true);
        int[][] want = {{3, 2, 01023}, {3, 2, 01023}, {3, 2, 01023}, {3, 2, 01023}, {0, 0, 00123}, {2, 0, 01023},
            {1, 0, 00123}};
        for (int house = 0; house < 7; house++) {
            for (int what = 0; what < 3; what++) {
                due("favour(" + house + ", " + what + ")", room.favour(house, what), want[house][what]);
            }
        }
        due("favour(0, 3)", room.favour(0, 3), -1);
        due("favour(0, -1)", room.favour(0, -1), -1);
        due("favour(7, 0)", room.favour(7, 0), -1);
        due("favour(-1, 0)", room.favour(-1, 0), -1);
        room = under("", "add must a;", "add must b;", "add must c;", "add must d;", "add must e;", "add must f;",
            "add must g;");
        due("six at most", room.favour(0, 2), 0012345);
    }

    private static void gain() {
        promise = "25 gain";
        WishRoom room = under("", "add must a;", "add must not a and b;", "add must not a and c;", "add must d;");
        yes(room, 4, 4, 4, 4);
        room.vote(0, 0, true);
        due("by a no for 0 it has 1 and 2", room.gain(0), 0);
        due("no such vote", room.gain(4), -1);
        room.vote(4, 1, true);
        room.vote(4, 2, true);
        due("it can't keep 0 from being taken", room.gain(4), -1);
        due("gain(7)", room.gain(7), -1);
        due("gain(-1)", room.gain(-1), -1);
        room = under("must false;", "strike 0;", "add must a;");
        yes(room, 3, 4);
        room.vote(6, 1, true);
        due("a yes for 0 lets 1 be taken", room.gain(6), 0);
        due("the votes are as they were", room.votes(3), 0);
        room = under("", "add must a;");
        yes(room, 3);
        due("what it votes no for is no gain", room.gain(5), -1);
    }

    private static void world() {
        promise = "26 world";
        WishRoom room = new WishRoom();
        due("world(128)", room.world(128), -1);
        due("world(-1)", room.world(-1), -1);
        for (int i = 0; i < 40; i++) {
            due("world(127)", room.world(127 - i % 2 * 127), i);
        }
        due("the 41st", room.world(0), -1);
        due("CASES", room.count(5), 40);
    }

    private static void cases() {
        promise = "27 cases";
        WishRoom room = under("must a;", "change 0 to must b;");
        for (int world : new int[] {0, 1, 1, 2, 2, 2, 3}) {
            room.world(world);
        }
        room.days(1);
        room.world(1);
        due("no more", room.cases(0, 0), 3);
        due("the other way", room.cases(0, 1), 3);
        room.view(0);
        due("those in THE VIEW", room.cases(0, 0), 2);
        due("the empty draft", room.cases(3, 0), 0);
        due("cases(0, 2)", room.cases(0, 2), -1);
        due("cases(0, -1)", room.cases(0, -1), -1);
        due("cases(4, 0)", room.cases(4, 0), -1);
        due("cases(-1, 0)", room.cases(-1, 0), -1);
        law(room, "must false;");
        due("no DRAFT", room.cases(0, 0), -1);
    }

    private static void blamed() {
        promise = "28 blamed";
        WishRoom room = under("must a;", "add must b;", "add must c;", "strike 0;", "add must b and c and d;");
        room.world(1);
        room.world(3);
        room.world(15);
        room.world(14);
        room.world(11);
        room.withdraw(3);
        due("the draft", room.draft(0, 0), 7);
        due("b and c are both missing: no one alone", room.blamed(0, 0), -1);
        due("c is missing", room.blamed(1, 0), 1);
        due("allowed as it was", room.blamed(2, 0), -1);
        due("allowed now", room.blamed(3, 0), 2);
        due("c is missing", room.blamed(4, 0), 1);
        due("blamed(5, 0)", room.blamed(5, 0), -1);
        due("blamed(-1, 0)", room.blamed(-1, 0), -1);
        due("blamed(1, 4)", room.blamed(1, 4), -1);
        due("blamed(1, -1)", room.blamed(1, -1), -1);
        WishRoom free = under("must a;", "strike 0;");
        due("no case", free.blamed(0, 0), -1);
        free.world(0);
        due("allowed now", free.blamed(0, 0), 0);
        due("no such case", free.blamed(1, 0), -1);
        room.days(1);
        room.world(3);
        due("told today", room.blamed(5, 0), 1);
        room.view(0);
        due("not in THE VIEW", room.blamed(5, 0), -1);
        due("the other ones are", room.blamed(1, 0), 1);
        law(room, "must false;");
        due("no DRAFT", room.blamed(1, 0), -1);
    }

    private static void idle() {
        promise = "29 idle";
        WishRoom room = under("must a and b; must a; may c; may c or c; may d; must b and a; must not e;");
        int[] want = {1, 1, 1, 1, 0, 1, 0};
        for (int line = 0; line < 7; line++) {
            due("idle(" + line + ")", room.idle(line), want[line]);
        }
        due("idle(7)", room.idle(7), -1);
        due("idle(-1)", room.idle(-1), -1);
    }

    private static void fewest() {
        promise = "30 fewest";
        WishRoom room = under("must a; must b; may c; may c; must a and b; must b and a; must true;");
        due("fewest(0)", room.fewest(0), 2);
        due("the least number of as many", room.fewest(1), 4 | 16);
        due("fewest(2)", room.fewest(2), -1);
        due("fewest(-1)", room.fewest(-1), -1);
        law(room, "must a; must b; must not a or not b;");
        due("all are needed", room.fewest(0), 3);
        law(room, "must true; must a or not a;");
        due("none is needed", room.fewest(0), 0);
        due("none is needed", room.fewest(1), 0);
        law(room, "must a; must not a; must b; must false; may a; may b;");
        due("one that allows nothing, and the mays", room.fewest(1), 8 | 16 | 32);
        law(room, "must a or b; must a or c; must a or d; must b or c; must b or d; must c or d;"
            + "must a or e; must b or e; must c or e; must d or e; must a or f; must b or f;");
        due("twelve", room.fewest(0), 12);
        due("twelve", room.fewest(1), 4095);
    }

    private static void beside() {
        promise = "31 beside";
        WishRoom room = under("must a or b; may c;", "strike 0;", "keep 0;", "keep 0;", "add must d;");
        due("beside(0, 1)", room.beside(0, 1), 2);
        due("beside(1, 0)", room.beside(1, 0), 1);
        due("beside(0, 3)", room.beside(0, 3), 6);
        due("beside(3, 0)", room.beside(3, 0), 0);
        due("beside(2, 2)", room.beside(2, 2), 0);
        due("beside(4, 0)", room.beside(4, 0), -1);
        due("beside(0, 4)", room.beside(0, 4), -1);
        due("beside(-1, 0)", room.beside(-1, 0), -1);
        law(room, "must false;");
        due("no DRAFT", room.beside(0, 1), -1);
    }

    private static void count() {
        promise = "32 count";
        WishRoom room = under("must a;", "strike 0;", "keep 0;", "strike 0;");
        ground(room, 0, "a;");
        room.world(3);
        room.days(3);
        wish(room, 3, "add must b;");
        room.world(4);
        room.world(5);
        room.withdraw(1);
        room.view(2);
        tell(room, "must ");
        int[] want = {3, 2, 4, 3, 2, 3, 1, 5, 1, 1};
        for (int what = 0; what < 10; what++) {
            due("count(" + what + ")", room.count(what), want[what]);
        }
        for (int what : new int[] {-1, 10, LEAST_INT, GREATEST_INT}) {
            boolean thrown = false;
            try {
                room.count(what);
            } catch (NoSuchElementException e) {
                thrown = true;
            }
            due("count(" + what + ") throws", thrown, true);
        }
    }
}
