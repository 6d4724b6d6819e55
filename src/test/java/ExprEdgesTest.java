/** Part 1 of the Terms, EXPR and FAULTS: each sentence with a bound, at the bound and on both sides of it. */
public final class ExprEdgesTest {
    private static final Check CHECK = new Check();
    private static final String THING = "thing 1 0 0;";
    private static final String PERSON = "person 0 2 1 0;";
    /** The least int; the greatest is one less than it. */
    private static final String LOW = "2048*1024*1024";

    private ExprEdgesTest() {
    }

    public static void main(String[] args) {
        rowsOfOr();
        rowsOfAnd();
        oneTestASum();
        sumsAndProducts();
        parts();
        fromTheLeft();
        wraps();
        cutDownAndByZero();
        oneOrZero();
        valuesOfPuts();
        valuesOfFeels();
        wordsOfValues();
        firstAlongTheText();
        leastOfOneToken();
        firstByte();
        endsTooSoon();
        fiveDigits();
        numbersInAnExpr();
        withinSixOthers();
        asMuchWithinAsMayBe();
        seventhNot();
        noValue();
        oneself();
        toldTwice();
        toldBehind();
        CHECK.end();
    }

    private static void reads(String text, int fault, int place) {
        Texts.reads(CHECK, text, fault, place);
    }

    private static void reads(String text) {
        Texts.reads(CHECK, text);
    }

    /** One with much room leaves on day 0 and takes as many of one thing as puts gives. */
    private static void puts(String expr, int want) {
        PackedCases x = Texts.with("thing 1 7 9;person 60 2 1 4 by 1;person 0 9 8 0;puts " + expr + ";");
        CHECK.due("puts " + expr, x.packed(0, 0, 1), want);
    }

    /** One comes back on day 2 with a use of 6 and is liked then as feels gives. */
    private static void feels(String expr, int want) {
        PackedCases x = Texts.with("thing 1 3 9;person 60 9 2 4 by 1;person 0 9 8 0;puts 2;feels " + expr + ";");
        CHECK.due("feels " + expr, x.then(0, 3, 1), want);
    }

    private static void same(String expr, String other) {
        puts("(" + expr + ")=(" + other + ")", 1);
        puts("(" + expr + ")=(" + other + ")+1", 0);
        puts("(" + expr + ")+1=(" + other + ")", 0);
    }

    /** "EXPR: AND ('or' AND)*." */
    private static void rowsOfOr() {
        reads("puts 1 or 2;");
        reads("puts 1 or 2 or 3;");
        reads("puts 1" + " or 1".repeat(138) + ";");
        reads("puts or 1;", 3, 5);
        reads("puts 1 or;", 1, 9);
        reads("puts 1 or or 1;", 3, 10);
        reads("puts 1 ors 1;", 1, 7);
        reads("puts 1 o 1;", 1, 7);
        puts("0 or 0 or 0", 0);
        puts("0 or 0 or 3", 1);
        puts("3 or 0 or 0", 1);
    }

    /** "AND: NOT ('and' NOT)*." */
    private static void rowsOfAnd() {
        reads("puts 1 and 2;");
        reads("puts 1" + " and 1".repeat(115) + ";");
        reads("puts and 1;", 3, 5);
        reads("puts 1 and;", 1, 10);
        reads("puts 1 and and 1;", 3, 11);
        reads("puts 1 an 1;", 1, 7);
        reads("puts 1 ands 1;", 1, 7);
        puts("2 and 3 and 4", 1);
        puts("0 and 3 and 4", 0);
        puts("2 and 3 and 0", 0);
        puts("1 or 1 and 0", 1);
        puts("0 and 1 or 1", 1);
        puts("0 and (1 or 1)", 0);
    }

    /** "NOT: 'not' NOT | SUM [('<' | '=') SUM]." */
    private static void oneTestASum() {
        reads("puts 1<2;");
        reads("puts 1=2;");
        reads("puts 1<2<3;", 1, 8);
        reads("puts 1=2=3;", 1, 8);
        reads("puts 1<2=3;", 1, 8);
        reads("puts 1<=3;", 1, 7);
        reads("puts 1<;", 1, 7);
        reads("puts <1;", 1, 5);
        reads("puts =1;", 1, 5);
        reads("puts (1<2)=(3<4);");
        reads("puts 1<2 and 3<4 or 5=6;");
        reads("puts not 1<2 and not 3=4;");
        reads("puts 1<not 2;", 3, 7);
        reads("puts 1=not 2;", 3, 7);
        reads("puts not<1;", 1, 8);
        puts("not 2<1", 1);
        puts("not 0=1", 1);
        puts("not 0 or 1", 1);
        puts("not (0 or 1)", 0);
        puts("not 1 or 1", 1);
        puts("not 0 and 0", 0);
    }

    /** "SUM: PRODUCT (('+' | '-') PRODUCT)*. PRODUCT: PART (('*' | '/') PART)*." */
    private static void sumsAndProducts() {
        reads("puts 1" + "-1".repeat(346) + ";");
        reads("puts 1" + "*1".repeat(346) + ";");
        reads("puts 1" + "/1".repeat(346) + ";");
        reads("puts +1;", 1, 5);
        reads("puts -1;", 1, 5);
        reads("puts *1;", 1, 5);
        reads("puts /1;", 1, 5);
        reads("puts 1+;", 1, 7);
        reads("puts 1-;", 1, 7);
        reads("puts 1*;", 1, 7);
        reads("puts 1/;", 1, 7);
        reads("puts 1+-1;", 1, 7);
        reads("puts 1*/1;", 1, 7);
        reads("puts 1+not 1;", 3, 7);
        reads("puts 1/not 1;", 3, 7);
        puts("1+2*3", 7);
        puts("2*3+1", 7);
        puts("9-2*3", 3);
        puts("9-8/4", 7);
        puts("3<2+2", 1);
        puts("2+2<3", 0);
        puts("1+1" + "-1+1".repeat(100), 2);
    }

    /** "PART: NUMBER | VALUE | '(' EXPR ')'." */
    private static void parts() {
        reads("puts (1);");
        reads("puts (1 or 2 and not 3<4);");
        reads("puts ();", 1, 6);
        reads("puts (1;", 1, 7);
        reads("puts (1", 1, 7);
        reads("puts 1);", 1, 6);
        reads("puts );", 1, 5);
        reads("puts (1));", 1, 8);
        reads("puts (1)(2);", 1, 8);
        reads("puts 1(2);", 1, 6);
        reads("puts (1)2;", 1, 8);
        reads("puts 1 2;", 1, 7);
        reads("puts fond use;", 1, 10);
        reads("puts 1 fond;", 1, 7);
        reads("puts fond 1;", 1, 10);
        reads("puts 1 not 2;", 1, 7);
    }

    /** "From the left". */
    private static void fromTheLeft() {
        puts("9-5-3", 1);
        puts("9-(5-3)", 7);
        puts("8/4/2", 1);
        puts("8/(4/2)", 4);
        puts("7/2*2", 6);
        puts("7*2/4", 3);
        puts("9-5+3", 7);
        same("5000*5000*5000/5000", "3-3+(5000*5000*5000)/5000");
    }

    /** "ints that wrap". */
    private static void wraps() {
        puts(LOW + "<0", 1);
        puts(LOW + "-1<0", 0);
        puts("0<" + LOW + "-1", 1);
        puts("0<" + LOW, 0);
        same(LOW + "-1+1", LOW);
        same("0-" + LOW, LOW);
        same("2048*1024*2048", "0");
        same("2048*1024*2048+5", "5");
        // 2199560022 less 2 to the power of 32
        same("9999*9999*22", "0-2095*1000*1000-407*1000-274");
        puts("9999*9999*21<0", 0);
        puts("9999*9999*22<0", 1);
        // a test is no subtraction that might wrap
        puts(LOW + "<1", 1);
        puts("(" + LOW + "-1)<0-1", 0);
        puts("0-1<" + LOW + "-1", 1);
    }

    /** "/ cut down to 0, by 0 gives 0". */
    private static void cutDownAndByZero() {
        same("7/2", "3");
        same("(0-7)/2", "0-3");
        same("7/(0-2)", "0-3");
        same("(0-7)/(0-2)", "3");
        same("1/2", "0");
        same("(0-1)/2", "0");
        same("5/1", "5");
        same("5/(0-1)", "0-5");
        same("5/0", "0");
        same("(0-5)/0", "0");
        same("0/0", "0");
        same("0/5", "0");
        same(LOW + "/(0-1)", LOW);
        same(LOW + "/0", "0");
        feels("9/0", 0);
        feels("9/had", 1);
        feels("9/(had-6)+2", 2);
    }

    /** "tests, not, and, or are 1 or 0 (what isn't 0 holds)". */
    private static void oneOrZero() {
        same("1<2", "1");
        same("2<2", "0");
        same("2<1", "0");
        same("0-1<0", "1");
        same("0<0-1", "0");
        same("1=2", "0");
        same("2=2", "1");
        same("3=2", "0");
        same("not 0", "1");
        same("not 1", "0");
        same("not 2", "0");
        same("not (0-1)", "0");
        same("not not 7", "1");
        same("not " + LOW, "0");
        same("5 and 6", "1");
        same("5 and 0", "0");
        same("0 and 6", "0");
        same("0-1 and 0-2", "1");
        same("2 and 4", "1");
        same("5 or 6", "1");
        same("5 or 0", "1");
        same("0 or 6", "1");
        same("0-1 or 0", "1");
        same("1-1 or 0", "0");
        same("1 or 1", "1");
    }

    /** "VALUES of PUTS, for who leaves and a THING: .. 'stock' (how many .. then), 'room' (.. then), 'day'". */
    private static void valuesOfPuts() {
        puts("fond", 4);
        puts("use", 7);
        puts("weight", 1);
        puts("stock/3", 3);
        puts("room/10", 6);
        puts("day", 0);
        puts("day+1", 1);
        PackedCases x = Texts.with("thing 7 1 9;thing 3 2 9;person 50 9 8 6 by 2;person 20 9 8 3 by 2;person 0 9 8 0;"
                + "puts (weight=7)*2+(weight=3)*room/10;");
        CHECK.due("two of 7", x.packed(0, 0, 1), 2);
        CHECK.due("room is 36 then", x.packed(0, 1, 1), 3);
        CHECK.due("two of 7, of another", x.packed(1, 0, 1), 2);
        CHECK.due("room is 6 then", x.packed(1, 1, 1), 0);
        PackedCases y = Texts.with("thing 1 0 9;person 50 9 8 0 by 2;person 20 9 8 0 by 2;person 0 9 8 0;"
                + "puts stock-5;");
        CHECK.due("9 less 5", y.packed(0, 0, 1), 4);
        CHECK.due("stock is 5 then", y.packed(1, 0, 1), 0);
        PackedCases z = Texts.with("thing 1 8 9;thing 1 3 9;person 50 2 1 5 by 1;person 0 9 1 0;puts (use<fond)*day;");
        CHECK.due("of this thing", z.packed(0, 0, 3), 0);
        CHECK.due("on day 2", z.packed(0, 1, 3), 2);
        CHECK.due("on day 8", z.packed(0, 1, 9), 0);
    }

    /** "of FEELS, for who comes back: 'fond', 'had' (..), 'away' (AWAY of one), 'day'". */
    private static void valuesOfFeels() {
        feels("fond", 4);
        feels("fond+1", 5);
        feels("had", 6);
        feels("away", 2);
        feels("day", 2);
        feels("day*4+away*2-had/2", 9);
        PackedCases x = Texts.with("thing 1 3 9;person 0 9 1 0;person 60 9 3 4;feels day*2+away/3;");
        CHECK.due("one comes back on day 1", x.then(0, 2, 1), 2);
        CHECK.due("another one on day 3", x.then(1, 4, 1), 7);
    }

    /** A VALUE is the whole word, of this EXPR alone. */
    private static void wordsOfValues() {
        String[] puts = {"fond", "use", "weight", "stock", "room", "day"};
        String[] feels = {"fond", "had", "away", "day"};
        for (String word : puts) {
            boolean both = word.equals("fond") || word.equals("day");
            reads("puts " + word + ";");
            reads("feels " + word + ";", both ? 0 : 3, both ? -1 : 6);
            reads("puts " + word + "s;", 3, 5);
            reads("puts " + word.substring(1) + ";", 3, 5);
            reads("puts " + word.substring(0, word.length() - 1) + ";", 3, 5);
        }
        for (String word : feels) {
            boolean both = word.equals("fond") || word.equals("day");
            reads("feels " + word + ";");
            reads("puts " + word + ";", both ? 0 : 3, both ? -1 : 5);
            reads("feels " + word + "s;", 3, 6);
            reads("feels " + word.substring(1) + ";", 3, 6);
            reads("feels " + word.substring(0, word.length() - 1) + ";", 3, 6);
        }
        reads("feels had;puts use;");
        reads("feels had;puts had;", 3, 15);
        reads("puts use;feels use;", 3, 15);
    }

    /** "FAULTS, the first along the text". */
    private static void firstAlongTheText() {
        reads("thing 21 10 10;", 2, 6);
        reads("thing 20 10 10;", 2, 9);
        reads("thing 20 9 10;", 2, 11);
        reads("person 61 1 9 10 by 9;", 2, 7);
        reads("person 60 1 9 10 by 9;", 2, 10);
        reads("person 60 2 9 10 by 9;", 2, 12);
        reads("person 60 2 1 10 by 9;", 2, 14);
        reads("person 60 2 1 9 by 9;", 2, 19);
        reads("person 60 2 1 9 by 0 x", 4, 19);
        reads("thing 0 0 0;x", 2, 6);
        reads("x;thing 0 0 0;", 1, 0);
        reads("puts had+12345;", 3, 5);
        reads("puts 12345+had;", 2, 5);
        reads("puts 1;puts had;", 5, 7);
        reads("puts had;puts 1;", 3, 5);
        reads("puts 1+;puts 2;", 1, 7);
    }

    /** ".. of one TOKEN the least". */
    private static void leastOfOneToken() {
        // too much, and no VALUE
        reads("puts ((((((had", 2, 11);
        reads("feels ((((((use", 2, 12);
        reads("puts ((((((puts", 2, 11);
        // too much, and oneself
        reads("person 0 2 1 0 by 00000;", 2, 18);
        // no VALUE, and a second one
        reads("puts puts", 3, 5);
        reads("feels feels", 3, 6);
        reads("puts 1;feels puts", 3, 13);
        // can't stand there, and a second one, too much or no VALUE elsewhere
        reads("puts 1 puts 2;", 1, 7);
        reads("puts 1 had;", 1, 7);
        reads("puts 1 12345;", 1, 7);
        reads("12345;", 1, 0);
        reads("thing 1 0 0 12345;", 1, 12);
        reads("puts 1;person puts", 1, 14);
        reads(THING.repeat(6) + "person thing", 1, 79);
        reads(THING.repeat(6) + "puts thing", 3, 77);
        reads(THING.repeat(6) + "puts 1 thing", 1, 79);
        reads(PERSON.repeat(7) + "thing person", 1, 111);
        // can't stand there, though within six others
        reads("puts (((((()", 1, 11);
        reads("puts ((((((;", 1, 11);
        reads("puts ((((((+1", 1, 11);
        reads("puts ((((((<1", 1, 11);
        reads("puts ((((((,", 1, 11);
        reads("puts ((((((A", 1, 11);
    }

    /** ".. at a TOKEN's first byte". */
    private static void firstByte() {
        reads("   things", 1, 3);
        reads("thing   123456 0 0;", 2, 8);
        reads("thing \n 21 0 0;", 2, 8);
        reads("puts  hadd;", 3, 6);
        reads("person 0 2 1 0 by   0000;", 4, 20);
        reads("puts 1;\n puts 2;", 5, 9);
        reads("puts not not not not not not  not 1;", 2, 30);
        reads("puts ((((((  fond", 2, 13);
        reads(THING.repeat(6) + "  thing", 2, 74);
    }

    /** "(the text's length where it ends too soon)". */
    private static void endsTooSoon() {
        String text = "thing 3 5 2;person 12 4 2 6 by 1;puts (fond+use)*2<9 or not 0;feels had-1;";
        for (int n = 0; n < text.length(); n++) {
            String part = text.substring(0, n);
            boolean isCut = n > 0 && Character.isLetter(text.charAt(n - 1)) && Character.isLetter(text.charAt(n));
            if (isCut) {
                continue;
            }
            boolean isWhole = part.isEmpty() || part.endsWith(";");
            for (String blanks : new String[] {"", " ", "\n\n "}) {
                reads(part + blanks, isWhole ? 0 : 1, isWhole ? -1 : n + blanks.length());
            }
        }
        PackedCases x = new PackedCases();
        Texts.feed(x, text);
        CHECK.due("a text ends at its length, not at the tape's", x.house(11), 1);
        CHECK.due("its place", x.fault(), 11);
    }

    /** "2 .. a NUMBER of 5 digits or more". */
    private static void fiveDigits() {
        for (String rule : new String[] {"puts ", "feels "}) {
            int at = rule.length();
            reads(rule + "0;");
            reads(rule + "00;");
            reads(rule + "000;");
            reads(rule + "0000;");
            reads(rule + "00000;", 2, at);
            reads(rule + "9999;");
            reads(rule + "10000;", 2, at);
            reads(rule + "99999;", 2, at);
            reads(rule + "09999;", 2, at);
            reads(rule + "12345678901234567890;", 2, at);
            reads(rule + "1+10000;", 2, at + 2);
            reads(rule + "(1=(2<10000;", 2, at + 6);
        }
        reads("person 0 2 1 0 by 0006;");
        reads("person 0 2 1 0 by 00006;", 2, 18);
    }

    /** "(not in an EXPR) not as told". */
    private static void numbersInAnExpr() {
        reads("puts 21*61+9999;");
        same("9999+1", "100*100");
        same("0009", "9");
        same("0100", "10*10");
        same("1000", "10*10*10");
        same("4321", "4*1000+3*100+2*10+1");
    }

    /** "2 .. the first TOKEN .. of an EXPR within 6 others (a NUMBER, any word, a parenthesis)". */
    private static void withinSixOthers() {
        for (String rule : new String[] {"puts ", "feels "}) {
            int at = rule.length();
            for (int within = 0; within <= 5; within++) {
                reads(rule + "(".repeat(within) + "1" + ")".repeat(within) + ";");
                reads(rule + "(".repeat(within) + "not fond" + ")".repeat(within) + ";");
                reads(rule + "(".repeat(within) + "by", 3, at + within);
            }
            for (String first : new String[] {"1", "12345", "fond", "not 1", "or", "by", "x", "thing", "("}) {
                reads(rule + "((((((" + first + "))))));", 2, at + 6);
                reads(rule + "((((((" + first, 2, at + 6);
                reads(rule + "1+(2*(3<(not(0 or(1 and(" + first, 2, at + 24);
            }
            reads(rule + "(((((1)))))+(((((2))))) or (((((3)))));");
            reads(rule + "(((((1)+(2)))))+((((((3", 2, at + 22);
            reads(rule + "(((((((((((((((", 2, at + 6);
            reads(rule + "((((((", 1, at + 6);
        }
        puts("(((((5)))))", 5);
        puts("1+(1+(1+(1+(1+(2)))))", 7);
        puts("1+(2*(3-(0 or(1 and(not 0)))))", 5);
    }

    /** Six EXPRs within one another, of each of which five PARTS wait for the next: 'a or b and c < d + e * (..)'. */
    private static void asMuchWithinAsMayBe() {
        int[] plain = {0, 1, 0, 0, 1};
        for (int changed = 0; changed < 30; changed++) {
            for (int last = 0; last <= 2; last++) {
                String expr = "" + last;
                int value = last;
                for (int within = 5; within >= 0; within--) {
                    int[] parts = plain.clone();
                    if (within == changed / 5) {
                        parts[changed % 5] ^= 1;
                    }
                    boolean isLess = parts[2] < parts[3] + parts[4] * value;
                    value = parts[0] != 0 || parts[1] != 0 && isLess ? 1 : 0;
                    expr = parts[0] + " or " + parts[1] + " and " + parts[2] + "<" + parts[3] + "+" + parts[4] + "*"
                            + (within == 5 ? expr : "(" + expr + ")");
                }
                puts(expr, value);
            }
        }
    }

    /** "2 .. the seventh 'not' side by side". */
    private static void seventhNot() {
        for (int nots = 0; nots <= 6; nots++) {
            reads("puts " + "not ".repeat(nots) + "1;");
            puts("not ".repeat(nots) + "5", nots == 0 ? 5 : nots % 2 == 0 ? 1 : 0);
        }
        for (int nots = 7; nots <= 9; nots++) {
            reads("puts " + "not ".repeat(nots) + "1;", 2, 29);
        }
        reads("puts " + "not ".repeat(7), 2, 29);
        reads("puts " + "not ".repeat(6), 1, 29);
        reads("puts " + "not ".repeat(6) + "nots", 3, 29);
        reads("feels 1 or " + "not ".repeat(6) + "1 and " + "not ".repeat(6) + "1;");
        reads("feels 1 or " + "not ".repeat(6) + "1 and " + "not ".repeat(7) + "1;", 2, 65);
        reads("puts " + "not ".repeat(6) + "(" + "not ".repeat(6) + "1);");
        reads("puts " + "not ".repeat(6) + "(" + "not ".repeat(7) + "1);", 2, 54);
        reads("puts (((((" + "not ".repeat(6) + "1)))));");
    }

    /** "3 any word where a PART must stand that is no VALUE of this EXPR". */
    private static void noValue() {
        String[] words = {"thing", "person", "puts", "feels", "by", "or", "and", "x", "zzzzzzzzzz", "fonduse"};
        String[] ahead = {"", "1+", "1-", "1*", "1/", "1<", "1=", "1 or ", "1 and ", "not ", "(", "1+("};
        for (String word : words) {
            for (String part : ahead) {
                reads("puts " + part + word, 3, 5 + part.length());
                reads("feels " + part + word + " 1;", 3, 6 + part.length());
            }
        }
        for (String part : new String[] {"1+", "1-", "1*", "1/", "1<", "1="}) {
            reads("puts " + part + "not 1;", 3, 7);
        }
    }

    /** "4 the PERSON behind 'by', if it is oneself"; "(a PERSON to 6)". */
    private static void oneself() {
        for (int person = 0; person <= 6; person++) {
            String ahead = PERSON.repeat(person) + "person 0 2 1 0 by ";
            for (int by = 0; by <= 8; by++) {
                int fault = by == person ? 4 : by > 6 ? 2 : 0;
                reads(ahead + by + ";", fault, fault == 0 ? -1 : ahead.length());
                reads(ahead + "000" + by + ";", fault, fault == 0 ? -1 : ahead.length());
            }
            reads(ahead + "0000" + person + ";", 2, ahead.length());
            reads(ahead + person, 4, ahead.length());
        }
    }

    /** "5 a second 'puts', 'feels'". */
    private static void toldTwice() {
        reads("puts 1;feels 1;");
        reads("feels 1;puts 1;");
        reads("puts 1;puts 1;", 5, 7);
        reads("feels 1;feels 1;", 5, 8);
        reads("puts 1;feels 1;puts", 5, 15);
        reads("puts 1;feels 1;feels", 5, 15);
        reads("puts 1;" + THING + PERSON + "puts 2;", 5, 34);
        PackedCases x = new PackedCases();
        CHECK.due("a house with both", Texts.house(x, "puts 1;feels 1;"), 0);
        CHECK.due("another one: all anew", Texts.house(x, "puts 1;feels 1;"), 0);
        CHECK.due("a fault behind both", Texts.house(x, "puts 1;feels 1;x"), 1);
        CHECK.due("another one behind a fault", Texts.house(x, "puts 1;feels 1;"), 0);
    }

    /** "(One's PACKER may be told behind; who is never told: nobody.)" */
    private static void toldBehind() {
        for (int people = 1; people <= 7; people++) {
            for (int by = 1; by <= 6; by++) {
                PackedCases x = Texts.with("person 0 2 1 0 by " + by + ";" + PERSON.repeat(people - 1));
                CHECK.due(people + " people, by " + by, x.person(0, 4), by < people ? by : -1);
            }
        }
        PackedCases x = Texts.with(PERSON + "person 0 2 1 0 by 0;");
        CHECK.due("told ahead", x.person(1, 4), 0);
        CHECK.due("without by: nobody", x.person(0, 4), -1);
    }
}
