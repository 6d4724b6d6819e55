/** Part 1 of the Terms and promises 1 to 4: each sentence with a bound, at the bound and on both sides of it. */
public final class TextEdgesTest {
    private static final Check CHECK = new Check();
    private static final String THING = "thing 1 0 0;";
    private static final String PERSON = "person 0 2 1 0;";
    private static final String ALL = "thing 3 5 2;person 12 4 2 6 by 1;puts (fond+use)*2<9 or not 0;feels had-1;";

    private TextEdgesTest() {
    }

    public static void main(String[] args) {
        newObject();
        lastCall();
        mostThings();
        numbersOfThings();
        mostPeople();
        numbersOfPeople();
        awayIsLessThanEvery();
        longestText();
        everyByte();
        everyByteBehindAWord();
        everyByteBehindANumber();
        everyByteInAnExpr();
        blanksCountForNothing();
        anyNumberOfLines();
        linesOfThings();
        linesOfPeople();
        linesOfRules();
        CHECK.end();
    }

    private static void reads(String text, int fault, int place) {
        Texts.reads(CHECK, text, fault, place);
    }

    private static void reads(String text) {
        Texts.reads(CHECK, text);
    }

    /** "No THINGS, nobody." */
    private static void newObject() {
        PackedCases x = new PackedCases();
        CHECK.due("new: things", x.count(0), 0);
        CHECK.due("new: people", x.count(1), 0);
        CHECK.due("new: the day", x.count(2), 0);
        CHECK.due("new: nobody is in", x.count(3), 0);
        CHECK.due("new: in all", x.count(7), 0);
        for (int what = 9; what <= 14; what++) {
            CHECK.due("new: count " + what, x.count(what), 0);
        }
        CHECK.none("new: no thing 0", () -> x.thing(0, 0));
        CHECK.none("new: no person 0", () -> x.person(0, 0));
        CHECK.due("new: days go by nevertheless", x.days(20), 20);
        CHECK.due("new: an image of it", x.undo(), 0);
        PackedCases y = new PackedCases();
        y.image();
        CHECK.due("new: restored", y.restore(), true);
    }

    /** "An object is used for at most 512 calls": the last of them is answered, too. */
    private static void lastCall() {
        PackedCases x = new PackedCases();
        for (int call = 1; call <= 512; call++) {
            CHECK.due("call " + call, x.days(1), call);
        }
    }

    /** "THINGS 0, 1 .. (at most 6)"; "2 .. the first TOKEN of the 7th THING". */
    private static void mostThings() {
        for (int things = 0; things <= 6; things++) {
            PackedCases x = Texts.with(THING.repeat(things));
            CHECK.due("things", x.count(0), things);
            int last = things - 1;
            if (last >= 0) {
                CHECK.due("the last thing", x.thing(last, 0), 1);
            }
            CHECK.none("the thing behind it", () -> x.thing(last + 1, 0));
        }
        reads(THING.repeat(7), 2, 72);
        reads(THING.repeat(8), 2, 72);
        reads(THING.repeat(6) + "\n thing x", 2, 74);
        reads(THING.repeat(6) + "thing", 2, 72);
        reads(THING.repeat(6) + PERSON + "thing 0", 2, 87);
        reads(THING.repeat(6) + "things 1 0 0;", 1, 72);
        reads(THING.repeat(6) + "thin 1 0 0;", 1, 72);
        reads(THING.repeat(5) + "thing 1 0 0", 1, 71);
    }

    private static void between(String ahead, int first, int last, String behind) {
        int place = ahead.length();
        reads(ahead + first + behind);
        reads(ahead + (first + 1) + behind);
        reads(ahead + (last - 1) + behind);
        reads(ahead + last + behind);
        reads(ahead + (last + 1) + behind, 2, place);
        reads(ahead + 9999 + behind, 2, place);
        reads(ahead + "000" + first + behind);
        reads(ahead + "0000" + first + behind, 2, place);
        reads(ahead + "00000" + last + behind, 2, place);
        if (first > 0) {
            reads(ahead + (first - 1) + behind, 2, place);
            reads(ahead + "0000" + behind, 2, place);
        }
        reads(ahead + "-" + first + behind, 1, place);
        reads(ahead + "x" + behind, 1, place);
    }

    /** "WEIGHT (1 to 20), USE (0 to 9), STOCK .. (0 to 9)". */
    private static void numbersOfThings() {
        between("thing ", 1, 20, " 0 0;");
        between("thing 1 ", 0, 9, " 0;");
        between("thing 1 0 ", 0, 9, ";");
        PackedCases x = Texts.with("thing 1 0 0;thing 20 9 9;thing 0020 0009 0009;");
        int[][] due = {{1, 0, 0}, {20, 9, 9}, {20, 9, 9}};
        for (int thing = 0; thing < 3; thing++) {
            for (int what = 0; what < 3; what++) {
                CHECK.due("told of " + thing + ": " + what, x.thing(thing, what), due[thing][what]);
            }
        }
    }

    /** "PEOPLE 0, 1 .. (at most 7)"; "2 .. the 8th PERSON". */
    private static void mostPeople() {
        for (int people = 0; people <= 7; people++) {
            PackedCases x = Texts.with(PERSON.repeat(people));
            CHECK.due("people", x.count(1), people);
            CHECK.due("all are in", x.count(3), (1 << people) - 1);
            int last = people - 1;
            if (last >= 0) {
                CHECK.due("the last person", x.person(last, 1), 2);
            }
            CHECK.none("the person behind it", () -> x.person(last + 1, 1));
        }
        reads(PERSON.repeat(8), 2, 105);
        reads(PERSON.repeat(7) + "\n person x", 2, 107);
        reads(PERSON.repeat(7) + "person", 2, 105);
        reads(PERSON.repeat(7) + THING + "person 99", 2, 117);
        reads(PERSON.repeat(7) + "persons", 1, 105);
        reads(PERSON.repeat(7) + THING.repeat(6) + "puts 1;feels 1;");
    }

    /** "HOLDS so much WEIGHT (0 to 60), EVERY (2 to 9), .. FOND (0 to 9 ..)". */
    private static void numbersOfPeople() {
        between("person ", 0, 60, " 2 1 0;");
        between("person 0 ", 2, 9, " 1 0;");
        between("person 0 2 1 ", 0, 9, ";");
        PackedCases x = Texts.with("person 0 2 1 0;person 60 9 8 9;person 0060 0009 0008 0009;");
        int[][] due = {{0, 2, 1, 0}, {60, 9, 8, 9}, {60, 9, 8, 9}};
        for (int person = 0; person < 3; person++) {
            for (int what = 0; what < 4; what++) {
                CHECK.due("told of " + person + ": " + what, x.person(person, what), due[person][what]);
            }
        }
    }

    /** "AWAY (1 to EVERY less 1)". */
    private static void awayIsLessThanEvery() {
        for (int every = 2; every <= 9; every++) {
            String ahead = "person 0 " + every + " ";
            reads(ahead + "0 0;", 2, 11);
            reads(ahead + "1 0;");
            reads(ahead + (every - 1) + " 0;");
            reads(ahead + every + " 0;", 2, 11);
            reads(ahead + (every + 1) + " 0;", 2, 11);
            reads(ahead + "000" + (every - 1) + " 0;");
            reads(ahead + "0000" + (every - 1) + " 0;", 2, 11);
        }
        reads("person 0 1 0 0;", 2, 9);
        reads("person 0 10 9 0;", 2, 9);
    }

    /** "A TEXT of at most 700 bytes tells it." */
    private static void longestText() {
        reads(" ".repeat(688) + THING);
        reads(THING + " ".repeat(688));
        reads(THING + " ".repeat(687) + "x", 1, 699);
        reads(" ".repeat(687) + "thing 1 0 0x;", 1, 698);
        reads(" ".repeat(695) + "thing", 1, 700);
        reads(" ".repeat(696) + "thin", 1, 696);
        reads("puts 1" + "+1".repeat(346) + " ;");
        reads("puts 1" + "+1".repeat(347), 1, 700);
        reads("feels " + "1".repeat(694), 2, 6);
        reads("x".repeat(700), 1, 0);
        PackedCases x = new PackedCases();
        Texts.feed(x, THING + " ".repeat(688));
        CHECK.due("the tape has 700", x.count(11), 700);
        CHECK.illegal("701 bytes", () -> x.house(701));
        CHECK.due("700 bytes", x.house(700), 0);
    }

    private static boolean isBlank(int b) {
        return b == 32 || b == 10;
    }

    private static boolean isLetter(int b) {
        return b >= 97 && b <= 122;
    }

    private static boolean isDigit(int b) {
        return b >= 48 && b <= 57;
    }

    /** "TOKENS: words (a .. z ..), NUMBERS .., signs ; ( ) + - * / < = ; blanks (32, 10)": no line begins with a sign. */
    private static void everyByte() {
        for (int b = 0; b <= 255; b++) {
            String sign = String.valueOf((char) b);
            reads(sign, isBlank(b) ? 0 : 1, isBlank(b) ? -1 : 0);
            reads(THING + sign + THING, isBlank(b) ? 0 : 1, isBlank(b) ? -1 : 12);
        }
    }

    /** "words (a .. z, the longest row)". */
    private static void everyByteBehindAWord() {
        for (int b = 0; b <= 255; b++) {
            String text = "thing" + (char) b + "1 0 0;";
            if (isBlank(b) || b == '0' || b == '1') {
                reads(text);
            } else if (isDigit(b)) {
                reads(text, 2, 5);
            } else {
                reads(text, 1, isLetter(b) ? 0 : 5);
            }
        }
    }

    /** "NUMBERS (1 to 4 digits)": the longest row, too. */
    private static void everyByteBehindANumber() {
        for (int b = 0; b <= 255; b++) {
            String text = "thing 1" + (char) b + "0 0;";
            if (isBlank(b)) {
                reads(text);
            } else if (isDigit(b)) {
                reads(text, 2, 6);
            } else {
                reads(text, 1, 7);
            }
        }
    }

    private static void everyByteInAnExpr() {
        for (int b = 0; b <= 255; b++) {
            String text = "puts 2" + (char) b + "2;";
            if (isDigit(b) || "+-*/<=".indexOf(b) >= 0) {
                reads(text);
            } else {
                reads(text, 1, isBlank(b) || b == ';' ? 7 : 6);
            }
        }
    }

    private static int kind(char sign) {
        return isLetter(sign) ? 1 : isDigit(sign) ? 2 : isBlank(sign) ? 3 : 4;
    }

    /** "blanks (32, 10) between them count for nothing": but not within a TOKEN. */
    private static void blanksCountForNothing() {
        for (int at = 0; at <= ALL.length(); at++) {
            int left = at > 0 ? kind(ALL.charAt(at - 1)) : 3;
            int right = at < ALL.length() ? kind(ALL.charAt(at)) : 3;
            if (left <= 2 && left == right) {
                continue;
            }
            for (String blanks : new String[] {" ", "\n", " \n \n"}) {
                PackedCases x = Texts.with(ALL.substring(0, at) + blanks + ALL.substring(at));
                CHECK.due("holds, blanks at " + at, x.person(0, 0), 12);
                CHECK.due("use, blanks at " + at, x.thing(0, 1), 5);
            }
        }
        reads("thing3 5 2;person12 4 2 6by1;puts(fond+use)*2<9or not 0;feels had-1;");
        reads("th ing 1 0 0;", 1, 0);
        reads("thing 1 0 0;pu\nts 1;", 1, 12);
        reads("thing 1 0 1 0;", 1, 12);
        reads("thing 2 0 0 0;", 1, 12);
        reads("puts 1 0;", 1, 7);
        reads("puts not0;");
        reads("puts 1or 0and 1;");
        reads("puts 1or0;");
        reads("puts notfond;", 3, 5);
    }

    /** "HOUSE: LINE*." */
    private static void anyNumberOfLines() {
        reads("");
        reads(" ");
        reads("\n");
        reads("puts 1;");
        reads("feels 1;" + PERSON + "puts 1;" + THING + PERSON + THING);
        reads(";", 1, 0);
        reads(THING + ";", 1, 12);
        reads(";" + THING, 1, 0);
        PackedCases x = Texts.with("person 7 2 1 0;thing 4 0 0;person 8 2 1 0;thing 5 0 0;");
        CHECK.due("the first person", x.person(0, 0), 7);
        CHECK.due("the second person", x.person(1, 0), 8);
        CHECK.due("the first thing", x.thing(0, 0), 4);
        CHECK.due("the second thing", x.thing(1, 0), 5);
    }

    /** "LINE: ('thing' WEIGHT USE STOCK | ..) ';'": each TOKEN once, none left out, none of another line. */
    private static void linesOfThings() {
        reads("1 0 0;", 1, 0);
        reads("thing 1 0;", 1, 9);
        reads("thing 1;", 1, 7);
        reads("thing ;", 1, 6);
        reads("thing 1 0 0 " + THING, 1, 12);
        reads("thing thing 1 0 0;", 1, 6);
        reads("thing 1 0 0 0;", 1, 12);
        reads("thing 1 0 0;;", 1, 12);
        reads("thing 1 0 0 by 1;", 1, 12);
        reads("thing 1 0 fond;", 1, 10);
        reads("thing 1 0 (0);", 1, 10);
        reads("thing 1+0 0 0;", 1, 7);
        reads("thing 1 0 0+0;", 1, 11);
        reads("by 1;", 1, 0);
        reads("not 1;", 1, 0);
        reads("fond;", 1, 0);
        reads("put 1;", 1, 0);
        reads("feel 1;", 1, 0);
        reads("feelss 1;", 1, 0);
    }

    /** "'person' HOLDS EVERY AWAY FOND ['by' PERSON]". */
    private static void linesOfPeople() {
        reads("0 2 1 0;", 1, 0);
        reads("person 0 2 1;", 1, 12);
        reads("person 0 2;", 1, 10);
        reads("person 0;", 1, 8);
        reads("person;", 1, 6);
        reads("person 0 2 1 0 " + THING, 1, 15);
        reads("person person 0 2 1 0;", 1, 7);
        reads("person 0 2 1 0 0;", 1, 15);
        reads("person 0 2 1 0 by 1;");
        reads("person 0 2 1 0 by;", 1, 17);
        reads("person 0 2 1 0 1;", 1, 15);
        reads("person 0 2 1 0 by by 1;", 1, 18);
        reads("person 0 2 1 0 by 1 1;", 1, 20);
        reads("person 0 2 1 0 by 1 by 2;", 1, 20);
        reads("person 0 2 1 0 bye 1;", 1, 15);
        reads("person 0 2 1 0 b 1;", 1, 15);
        reads("person 0 2 1 by 1;", 1, 13);
        reads("person 0 2 1 0 by -1;", 1, 18);
        reads("person 0 2 1 0 by fond;", 1, 18);
        reads("person 0 2 1 0 by 1", 1, 19);
    }

    /** "('puts' | 'feels') EXPR". */
    private static void linesOfRules() {
        reads("puts;", 1, 4);
        reads("feels;", 1, 5);
        reads("puts puts 1;", 3, 5);
        reads("puts 1;;", 1, 7);
        reads("puts 1 " + THING, 1, 7);
        reads("feels 1 feels 1;", 1, 8);
        reads("puts 1 by 1;", 1, 7);
        reads("puts feels 1;", 3, 5);
        reads("puts 1", 1, 6);
        reads("feels 1", 1, 7);
    }
}
