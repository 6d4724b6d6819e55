/** Promises 1 to 4: a new object, feed, house and fault; and what an EXPR gives. */
public final class ReadingTest {
    private static final Check CHECK = new Check();
    private static final String THING = "thing 1 0 0;";
    private static final String PERSON = "person 0 2 1 0;";

    private ReadingTest() {
    }

    public static void main(String[] args) {
        newObject();
        feed();
        wrongLengths();
        goodTexts();
        faultsOfLines();
        faultsOfRules();
        faultsOfDepth();
        aFaultLeavesAll();
        allAnew();
        packersToldBehind();
        sums();
        tests();
        values();
        wraps();
        CHECK.end();
    }

    private static void newObject() {
        PackedCases x = new PackedCases();
        for (int what = 0; what <= 14; what++) {
            CHECK.due("new: count " + what, x.count(what), what == 6 || what == 8 ? -1 : 0);
        }
        CHECK.due("new: fault", x.fault(), -1);
        CHECK.none("new: thing", () -> x.thing(0, 0));
        CHECK.none("new: person", () -> x.person(0, 0));
        CHECK.due("new: undo", x.undo(), -1);
        CHECK.due("new: restore", x.restore(), false);
    }

    private static void feed() {
        PackedCases x = new PackedCases();
        for (int n = 1; n <= 35; n++) {
            CHECK.due("feed " + n, x.feed(0x20202020, 0x20202020, 0x20202020, 0x20202020, 0x20202020), 20 * n);
        }
        CHECK.due("feed above 700", x.feed(0, 0, 0, 0, 0), -1);
        CHECK.due("tape stays", x.count(11), 700);
        CHECK.due("700 blanks are a house", x.house(700), 0);
        CHECK.due("tape is empty then", x.count(11), 0);
        // "thing 20 9 8;" highest byte first, over all five numbers
        x.feed(0x20202020, 0x20202020, 0x7468696e, 0x67203230, 0x20392038);
        x.feed(0x3b000000, 0, 0, 0, 0);
        CHECK.due("bytes in their order", x.house(21), 0);
        CHECK.due("weight", x.thing(0, 0), 20);
        CHECK.due("use", x.thing(0, 1), 9);
        CHECK.due("stock", x.thing(0, 2), 8);
    }

    private static void wrongLengths() {
        PackedCases x = new PackedCases();
        CHECK.illegal("house 1 of an empty tape", () -> x.house(1));
        CHECK.due("house 0 of an empty tape", x.house(0), 0);
        Texts.house(x, "x");
        Texts.feed(x, THING);
        CHECK.illegal("house 21", () -> x.house(21));
        CHECK.illegal("house -1", () -> x.house(-1));
        CHECK.illegal("house least int", () -> x.house(Integer.MIN_VALUE));
        CHECK.due("tape as it was", x.count(11), 20);
        CHECK.due("fault as it was", x.fault(), 0);
        CHECK.due("status as it was", x.count(12), 1);
        CHECK.due("house 12", x.house(12), 0);
        CHECK.due("no fault", x.fault(), -1);
        Texts.feed(x, "thing 1 0 12345;");
        CHECK.due("a number that goes on behind the text", x.house(11), 1);
        CHECK.due("its place", x.fault(), 11);
    }

    private static void fault(String text, int kind, int place) {
        Texts.reads(CHECK, text, kind, place);
    }

    private static void good(String text) {
        Texts.reads(CHECK, text);
    }

    private static void goodTexts() {
        good("");
        good(" \n  \n");
        good("thing1 0 0;");
        good("thing\n1\n0\n0\n;\n");
        good("thing 0001 0009 0000;");
        good("thing 20 9 9;");
        good("person 60 9 8 9 by 6;");
        good("person 0 2 1 0by6;");
        good(THING.repeat(6) + PERSON.repeat(7));
        good("puts 1;feels 1;");
        good("feels fond+had+away+day;puts fond+use+weight+stock+room+day;");
        good(THING + " ".repeat(688));
        fault(" ".repeat(695) + "thing", 1, 700);
        fault(THING + " ".repeat(687) + "1", 1, 699);
        good("puts 1" + "+1".repeat(346) + ";");
        good("puts not 1 and not not 0 or not(1<2);");
    }

    private static void faultsOfLines() {
        fault("thing 1 0 0", 1, 11);
        fault("thing 1 0 0 ", 1, 12);
        fault("thing 1 0 ", 1, 10);
        fault("thing", 1, 5);
        fault("thin 1 0 0;", 1, 0);
        fault("things 1 0 0;", 1, 0);
        fault("xhing 1 0 0;", 1, 0);
        fault("thingz 1 0 0;", 1, 0);
        fault("thinga 1 0 0;", 1, 0);
        fault("thing{1 0 0;", 1, 5);
        fault("thing`1 0 0;", 1, 5);
        fault("thing:1 0 0;", 1, 5);
        fault("thing,1 0 0;", 1, 5);
        fault("Thing 1 0 0;", 1, 0);
        fault("  ;", 1, 2);
        fault("5;", 1, 0);
        fault("by 0;", 1, 0);
        fault(THING + ";", 1, 12);
        fault(THING + "\u00e9", 1, 12);
        fault("thing\t1 0 0;", 1, 5);
        fault("thing 1 x 0;", 1, 8);
        fault("thing 1 0 0 5;", 1, 12);
        fault("thing 1 0 0 12345;", 1, 12);
        fault("thing 1 0 0 by 1;", 1, 12);
        fault("thing 0 0 0;", 2, 6);
        fault("thing 21 0 0;", 2, 6);
        fault("thing 00001 0 0;", 2, 6);
        fault("thing 1 00000 0;", 2, 8);
        fault("thing 1 10 0;", 2, 8);
        fault("thing 1 0 10;", 2, 10);
        fault(THING.repeat(6) + "thing 0 0 0;", 2, 72);
        fault(THING.repeat(6) + "thing", 2, 72);
        fault("person 61 2 1 0;", 2, 7);
        fault("person 0 1 1 0;", 2, 9);
        fault("person 0 10 1 0;", 2, 9);
        fault("person 0 5 0 0;", 2, 11);
        fault("person 0 5 5 0;", 2, 11);
        fault("person 0 5 4 10;", 2, 13);
        fault("person 0 2 1 0 by;", 1, 17);
        fault("person 0 2 1 0 by x;", 1, 18);
        fault("person 0 2 1 0 by 7;", 2, 18);
        fault("person 0 2 1 0 by 00001;", 2, 18);
        fault("person 0 2 1 0 by 00000;", 2, 18);
        fault("person 0 2 1 0 by 0;", 4, 18);
        fault(PERSON + "person 0 2 1 0 by 1;", 4, 33);
        fault("person 0 2 1 0 by 1 by 1;", 1, 20);
        fault("person 0 2 1 0 1;", 1, 15);
        fault(PERSON.repeat(7) + PERSON, 2, 105);
    }

    private static void faultsOfRules() {
        fault("puts 1;puts 2;", 5, 7);
        fault("feels 1;feels 2;", 5, 8);
        fault("puts", 1, 4);
        fault("puts ;", 1, 5);
        fault("puts 1", 1, 6);
        fault("puts -1;", 1, 5);
        fault("puts 1+;", 1, 7);
        fault("puts 1 2;", 1, 7);
        fault("puts 1 use;", 1, 7);
        fault("puts 1 not 2;", 1, 7);
        fault("puts 1<2<3;", 1, 8);
        fault("puts 1=2<3;", 1, 8);
        fault("puts (1;", 1, 7);
        fault("puts 1);", 1, 6);
        fault("puts ();", 1, 6);
        fault("puts (1)(2);", 1, 8);
        fault("puts ?;", 1, 5);
        fault("puts not;", 1, 8);
        fault("puts 12345;", 2, 5);
        fault("puts 1+00000;", 2, 7);
        fault("puts 1 12345;", 1, 7);
        fault("puts had;", 3, 5);
        fault("puts away;", 3, 5);
        fault("feels use;", 3, 6);
        fault("feels weight;", 3, 6);
        fault("feels stock;", 3, 6);
        fault("feels room;", 3, 6);
        fault("puts or 1;", 3, 5);
        fault("puts thing;", 3, 5);
        fault("puts uses;", 3, 5);
        fault("puts 1+not 1;", 3, 7);
        fault("puts 1*not 1;", 3, 7);
        fault("puts 1<not 1;", 3, 7);
        fault("puts 1 or or 1;", 3, 10);
        fault("puts not and 1;", 3, 9);
    }

    private static void faultsOfDepth() {
        good("puts " + "not ".repeat(6) + "1;");
        fault("puts " + "not ".repeat(7) + "1;", 2, 29);
        good("puts " + "not ".repeat(6) + "(" + "not ".repeat(6) + "1);");
        good("puts " + "not ".repeat(6) + "1 and " + "not ".repeat(6) + "1;");
        good("puts (((((1)))));");
        good("feels (((((not 1+2)))));");
        fault("puts ((((((1))))));", 2, 11);
        fault("puts (((((( x))))));", 2, 12);
        fault("puts ((((((not", 2, 11);
        fault("puts ((((((or", 2, 11);
        fault("puts ((((((12345", 2, 11);
        fault("puts (((((((", 2, 11);
        fault("puts (((((()", 1, 11);
        fault("puts ((((((-", 1, 11);
        fault("puts ((((((?", 1, 11);
        fault("puts ((((((", 1, 11);
        fault("puts (((((( ", 1, 12);
        fault("feels 1+(1+(1+(1+(1+(1+(had", 2, 24);
        good("puts (1)+((2))+(((((3)))));");
    }

    private static void aFaultLeavesAll() {
        PackedCases x = Texts.with("thing 3 5 2;person 12 4 2 6 by 1;person 5 3 1 1 by 0;");
        x.days(1);
        x.see(0, 0, 0, 0);
        x.image();
        CHECK.due("a text with a fault", Texts.house(x, "thing 1 1 1;thing 9;"), 1);
        CHECK.due("its place", x.fault(), 19);
        CHECK.due("the tape is empty", x.count(11), 0);
        CHECK.due("things stay", x.count(0), 1);
        CHECK.due("weight stays", x.thing(0, 0), 3);
        CHECK.due("people stay", x.count(1), 2);
        CHECK.due("the day stays", x.count(2), 1);
        CHECK.due("acts stay", x.count(9), 1);
        CHECK.due("seen stays", x.count(10), 1);
        CHECK.due("the image stays", x.restore(), true);
        CHECK.due("no rule is left of it", Texts.house(x, "puts 1;x"), 1);
        CHECK.due("refused twice", x.count(12), 2);
        CHECK.due("days go on by the first text", x.days(1), 2);
    }

    private static void allAnew() {
        PackedCases x = Texts.with("thing 3 5 2;person 12 4 2 6 by 1;person 5 3 1 1 by 0;puts 0;feels 9;");
        x.days(1);
        x.swap(0, 1);
        x.days(99);
        x.see(0, 0, 0, 0);
        x.see(0, 0, 99, 0);
        x.image();
        CHECK.due("another house", Texts.house(x, "thing 1 0 9;person 60 2 1 5 by 1;person 0 9 1 5;"), 0);
        CHECK.due("the day is 0", x.count(2), 0);
        CHECK.due("all are in", x.count(3), 3);
        CHECK.due("nothing is mixed", x.count(4), 0);
        CHECK.due("acts are gone", x.count(9), 0);
        CHECK.due("undo", x.undo(), -1);
        CHECK.due("seen is gone", x.count(10), 0);
        CHECK.due("the image is gone", x.restore(), false);
        CHECK.due("status 1 stays", x.count(13), 1);
        CHECK.due("status 2 stays", x.count(14), 1);
        CHECK.due("puts is gone", x.packed(0, 0, 1), 1);
        CHECK.due("feels is gone", x.then(0, 2, 1), 4);
        CHECK.due("an empty house", x.house(0), 0);
        CHECK.due("no things", x.count(0), 0);
        CHECK.due("nobody", x.count(1), 0);
    }

    private static void packersToldBehind() {
        PackedCases x = Texts.with("person 0 2 1 0 by 1;person 0 2 1 0 by 2;");
        CHECK.due("told behind", x.person(0, 4), 1);
        CHECK.due("never told", x.person(1, 4), -1);
    }

    /** One with much room leaves on day 0 and takes as many of one thing as puts gives. */
    private static void puts(String expr, int want) {
        PackedCases x = Texts.with("thing 1 7 9;person 60 2 1 4 by 1;person 0 9 8 0;puts " + expr + ";");
        CHECK.due("puts " + expr, x.packed(0, 0, 1), want);
    }

    /** One comes back on day 2 and is liked then as feels gives. */
    private static void feels(String expr, int want) {
        PackedCases x = Texts.with("thing 1 3 9;person 60 9 2 4 by 1;person 0 9 8 0;puts 2;feels " + expr + ";");
        CHECK.due("feels " + expr, x.then(0, 3, 1), want);
    }

    private static void sums() {
        puts("0", 0);
        puts("9", 9);
        puts("10", 9);
        puts("0-5", 0);
        puts("1+2*3", 7);
        puts("(1+2)*3", 9);
        puts("9-3-2", 4);
        puts("9-(3-2)", 8);
        puts("9/2/2", 2);
        puts("2*9/4", 4);
        puts("9/4*2", 4);
        puts("9/0", 0);
        puts("9/0+1", 1);
        puts("0/0", 0);
        puts("(0-7)/2+5", 2);
        puts("7/(0-2)+5", 2);
        puts("12-3", 9);
    }

    private static void tests() {
        puts("1<2", 1);
        puts("2<2", 0);
        puts("3<2", 0);
        puts("2=2", 1);
        puts("2=3", 0);
        puts("3+1<5*1", 1);
        puts("(2<3)+(2=2)", 2);
        puts("not 0", 1);
        puts("not 5", 0);
        puts("not not 5", 1);
        puts("not 1=2", 1);
        puts("not 1+1", 0);
        puts("(not 1)+2", 2);
        puts("not 0 and 0", 0);
        puts("5 or 0", 1);
        puts("0 or 0", 0);
        puts("0 or 7", 1);
        puts("5 and 3", 1);
        puts("5 and 0", 0);
        puts("0-1 and 0-2", 1);
        puts("1 or 0 and 0", 1);
        puts("(1 or 0) and 0", 0);
        puts("0 and 0 or 1", 1);
    }

    private static void values() {
        puts("fond", 4);
        puts("use", 7);
        puts("weight", 1);
        puts("stock-3", 6);
        puts("room-55", 5);
        puts("day+2", 2);
        feels("fond", 4);
        feels("had+1", 7);
        feels("away", 2);
        feels("day", 2);
        feels("0-1", 0);
        feels("10", 9);
        PackedCases x = Texts.with("thing 5 0 9;thing 1 0 9;person 30 3 1 0 by 1;person 0 9 1 0;puts room/8+day;");
        CHECK.due("room at first", x.packed(0, 0, 1), 3);
        CHECK.due("room then", x.packed(0, 1, 1), 1);
        CHECK.due("on day 3", x.packed(0, 0, 4), 6);
        CHECK.due("room then on day 3", x.packed(0, 1, 4), 0);
    }

    private static void wraps() {
        puts("9999*9999*22", 0);
        puts("0-9999*9999*22", 9);
        puts("2048*1024*1024", 0);
        puts("2048*1024*1024-1", 9);
        puts("2048*1024*1024/(0-1)<0", 1);
        puts("2048*1024*1024-1<0", 0);
    }
}
