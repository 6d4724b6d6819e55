import java.util.ArrayList;
import java.util.HashMap;
import java.util.List;
import java.util.Map;

/** Part 3 of the Terms (promises 5 to 8, 15 to 24): each sentence with a bound, at the bound and on both sides of it. */
public final class AskEdgesTest {
    private static final Check CHECK = new Check();
    private static final String HOUSE = "thing 3 5 2;thing 10 2 1;person 12 4 2 6 by 1;person 5 3 1 1 by 0;"
            + "person 20 2 1 9 by 0;";

    private AskEdgesTest() {
    }

    public static void main(String[] args) {
        behindSoManyDays();
        comes();
        leaves();
        lacking();
        crossest();
        emptiest();
        emptyCases();
        bestOfNone();
        bestAtTheBrim();
        bestOfLikeOnes();
        bestOfMuch();
        bestWereItEmpty();
        toHold();
        balanceOfBounds();
        balanceOfOneOfEach();
        balanceByFewest();
        packsFor();
        ring();
        ringOfNone();
        chain();
        mixed();
        toRight();
        firstSwap();
        everyMix();
        inAll();
        CHECK.end();
    }

    /** "THEN, behind so many DAYS (0 to 100)", PACKED, CUPBOARD, OUT then: as if these days had gone by. */
    private static void behindSoManyDays() {
        for (int days : new int[] {0, 1, 2, 19, 20, 21, 40, 99, 100}) {
            PackedCases x = Texts.with(HOUSE);
            PackedCases y = Texts.with(HOUSE);
            for (int left = days; left > 0; left -= 20) {
                y.days(Math.min(20, left));
            }
            for (int person = 0; person < 3; person++) {
                String who = person + " behind " + days;
                CHECK.due(who + " is in", x.then(person, days, 0), y.person(person, 6) == 0 ? 1 : 0);
                CHECK.due(who + " fond", x.then(person, days, 1), y.person(person, 3));
                CHECK.due(who + " has", x.then(person, days, 2), 5 * y.in(person, 0) + 2 * y.in(person, 1));
                CHECK.due(who + " weight", x.then(person, days, 3), 3 * y.in(person, 0) + 10 * y.in(person, 1));
                for (int thing = 0; thing < 2; thing++) {
                    CHECK.due(who + " packed " + thing, x.packed(person, thing, days), y.in(person, thing));
                }
            }
            for (int thing = 0; thing < 2; thing++) {
                CHECK.due("cupboard behind " + days, x.cupboard(thing, days), y.thing(thing, 2));
            }
            CHECK.due("out behind " + days, x.later(days, 0), 7 - y.count(3));
            CHECK.due("crossest behind " + days, x.later(days, 1), y.later(0, 1));
            CHECK.due("heaviest behind " + days, x.later(days, 3), y.later(0, 3));
        }
    }

    /** "COMES: behind how many DAYS (1 to 100) one who is OUT is IN first". */
    private static void comes() {
        for (int away = 1; away <= 8; away++) {
            PackedCases x = Texts.with("person 0 9 " + away + " 0;");
            for (int left = away; left >= 1; left--) {
                x.days(1);
                CHECK.due("comes", x.next(0), left);
                CHECK.due("out still", x.then(0, left - 1, 0), 0);
                CHECK.due("in first", x.then(0, left, 0), 1);
            }
            x.days(1);
            CHECK.due("leaves then, on day 9", x.next(0), 9 - away);
        }
    }

    /** "LEAVES: behind how many one who is IN is OUT first". */
    private static void leaves() {
        for (int every = 2; every <= 9; every++) {
            PackedCases x = Texts.with("person 0 " + every + " 1 0;");
            CHECK.due("leaves on day 0", x.next(0), 1);
            x.days(1);
            CHECK.due("comes on day 1", x.next(0), 1);
            for (int day = 2; day <= every; day++) {
                x.days(1);
                CHECK.due("leaves on day " + every, x.next(0), every - day + 1);
            }
        }
    }

    /** "LACKING: behind how many DAYS (0 to 100) STOCK of a THING is 0 first; none." */
    private static void lacking() {
        CHECK.due("0 now", Texts.with("thing 1 0 0;").lacking(0), 0);
        CHECK.due("1, for ever", Texts.with("thing 1 0 1;").lacking(0), -1);
        int[] days = {0, 2, 96, 98, 99, 100, 102};
        int[] every = {2, 2, 2, 2, 3, 2, 2};
        for (int at = 0; at < days.length; at++) {
            PackedCases x = Texts.with("thing 1 0 3;person 9 " + every[at] + " 1 0 by 1;person 0 8 1 0;"
                    + "puts 3*(day=" + days[at] + ");");
            CHECK.due("all go on day " + days[at], x.lacking(0), days[at] < 100 ? days[at] + 1 : -1);
            x.buy(0, 1);
            CHECK.due("all but one go", x.lacking(0), -1);
        }
        PackedCases x = Texts.with("thing 1 0 3;person 9 2 1 0 by 1;person 0 9 1 0;puts 3;");
        CHECK.due("first of many", x.lacking(0), 1);
        x.days(1);
        CHECK.due("now", x.lacking(0), 0);
        x.days(1);
        CHECK.due("again", x.lacking(0), 1);
    }

    /** "CROSSEST then: .. least FOND (of those who have one; of like ones the least); none." */
    private static void crossest() {
        CHECK.due("nobody", new PackedCases().later(0, 1), -1);
        CHECK.due("none has a packer", Texts.with("person 0 2 1 0;person 0 2 1 0;").later(0, 1), -1);
        CHECK.due("one has", Texts.with("person 0 2 1 0;person 0 2 1 9 by 0;").later(0, 1), 1);
        CHECK.due("of like ones the least", Texts.with("person 0 2 1 4 by 1;person 0 2 1 4 by 0;").later(0, 1), 0);
        CHECK.due("the first", Texts.with("person 0 2 1 3 by 1;person 0 2 1 4 by 0;").later(0, 1), 0);
        CHECK.due("the last", Texts.with("person 0 2 1 5 by 1;person 0 2 1 4 by 0;").later(0, 1), 1);
        // 0: one less on days 1, 3, 5: 8, 7, 6; 1: one less on day 5
        PackedCases x = Texts.with("person 0 2 1 9 by 1;person 0 9 5 7 by 0;");
        int[] due = {1, 1, 1, 1, 0, 0, 0};
        for (int days = 0; days < due.length; days++) {
            CHECK.due("behind " + days, x.later(days, 1), due[days]);
        }
    }

    /** "EMPTIEST in so many DAYS (1 to 100): the DAY of these behind which most are OUT (of like ones the first)." */
    private static void emptiest() {
        // behind day 0 all are back on day 1; two of them leave on days 56, 63, 72
        PackedCases x = Texts.with("person 0 9 1 0;person 0 8 1 0;person 0 7 1 0;");
        CHECK.due("now counts for nothing, day 0 does", x.emptiest(1), 1);
        CHECK.due("all behind day 0", x.emptiest(100), 1);
        x.days(1);
        CHECK.due("nobody", x.emptiest(1), 1);
        CHECK.due("nobody on the days ahead of 7", x.emptiest(6), 1);
        CHECK.due("one on day 7", x.emptiest(7), 7);
        CHECK.due("of like ones the first", x.emptiest(55), 7);
        CHECK.due("two on day 56", x.emptiest(56), 56);
        CHECK.due("of like ones the first", x.emptiest(100), 56);
        PackedCases y = Texts.with("person 0 5 1 0;person 0 4 1 0;person 0 5 4 0;");
        y.days(20);
        // the days 20 to 119: all three leave on the first of them
        CHECK.due("the first of a hundred", y.emptiest(100), 1);
        PackedCases z = Texts.with("person 0 5 1 0;person 0 4 1 0;person 0 5 1 0;person 0 4 1 0;");
        z.days(1);
        CHECK.due("two on day 4", z.emptiest(19), 4);
        CHECK.due("four on day 20", z.emptiest(20), 20);
        CHECK.due("a hundred", z.emptiest(100), 20);
    }

    /** "EMPTY CASES: how often one leaves in so many DAYS (0 to 100) with nothing in the CASE, all together." */
    private static void emptyCases() {
        PackedCases x = Texts.with("person 0 2 1 0;person 0 9 1 0;");
        for (int days = 0; days <= 100; days++) {
            CHECK.due("in " + days, x.later(days, 2), (days + 1) / 2 + (days + 8) / 9);
        }
        PackedCases y = Texts.with("thing 1 0 1;person 1 2 1 0 by 2;person 1 2 1 0 by 2;person 0 9 1 0;");
        CHECK.due("no days", y.later(0, 2), 0);
        CHECK.due("the last one goes with 0, not with 1 and 2", y.later(1, 2), 2);
        CHECK.due("one piece is not nothing", y.later(3, 2), 3);
        y.days(1);
        CHECK.due("from now on", y.later(2, 2), 1);
    }

    private static void best(String call, String house, int use, int... many) {
        PackedCases x = Texts.with(house);
        CHECK.due(call + ": how much", x.best(0, -1), use);
        for (int thing = 0; thing < many.length; thing++) {
            CHECK.due(call + ": of " + thing, x.best(0, thing), many[thing]);
        }
    }

    /** "BEST .. as many of each THING as STOCK has, or fewer". */
    private static void bestOfNone() {
        best("no things", "person 60 2 1 0;", 0);
        best("none in stock", "thing 1 9 0;person 60 2 1 0;", 0, 0);
        best("one in stock", "thing 1 9 1;person 60 2 1 0;", 9, 1);
        best("nine in stock", "thing 1 9 9;person 60 2 1 0;", 81, 9);
        best("none of the better one", "thing 1 9 0;thing 1 1 2;person 60 2 1 0;", 2, 0, 2);
        best("one of the better one", "thing 1 9 1;thing 1 1 2;person 1 2 1 0;", 9, 1, 0);
    }

    /** ".. go into it": what it holds, and one more, and one less. */
    private static void bestAtTheBrim() {
        for (int holds = 0; holds <= 60; holds++) {
            best("of 7 into " + holds, "thing 7 2 9;person " + holds + " 2 1 0;", holds / 7 * 2, holds / 7);
        }
        best("19 of 20", "thing 20 9 9;person 19 2 1 0;", 0, 0);
        best("20 of 20", "thing 20 9 9;person 20 2 1 0;", 9, 1);
        best("59 of 20", "thing 20 9 9;person 59 2 1 0;", 18, 2);
        best("60 of 20", "thing 20 9 9;person 60 2 1 0;", 27, 3);
        best("7 of 4 and 3", "thing 4 5 1;thing 3 4 1;person 7 2 1 0;", 9, 1, 1);
        best("6 of 4 and 3", "thing 4 5 1;thing 3 4 1;person 6 2 1 0;", 5, 1, 0);
        best("6 of 4 and two of 3", "thing 4 5 1;thing 3 4 2;person 6 2 1 0;", 8, 0, 2);
    }

    /** "of like ones the first row (by THINGS: how many; more comes first)". */
    private static void bestOfLikeOnes() {
        best("more of 0", "thing 2 4 1;thing 1 2 2;person 2 2 1 0;", 4, 1, 0);
        best("more of 0, two of it", "thing 1 2 2;thing 2 4 1;person 2 2 1 0;", 4, 2, 0);
        best("like things", "thing 1 1 5;thing 1 1 5;thing 1 1 5;person 7 2 1 0;", 7, 5, 2, 0);
        best("of no use, where there is room", "thing 5 0 9;thing 1 1 4;person 14 2 1 0;", 4, 2, 4);
        best("of no use, where there is none", "thing 5 0 9;thing 1 1 4;person 8 2 1 0;", 4, 0, 4);
        best("of no use, where there just is", "thing 5 0 9;thing 1 1 4;person 9 2 1 0;", 4, 1, 4);
        best("of no use, behind", "thing 1 1 4;thing 5 0 9;thing 1 0 9;person 12 2 1 0;", 4, 4, 1, 3);
        best("of no use at all", "thing 20 0 9;thing 19 0 9;person 60 2 1 0;", 0, 3, 0);
    }

    /** STOCK above 99. */
    private static void bestOfMuch() {
        PackedCases x = Texts.with("thing 1 9 9;person 60 9 1 0 by 1;person 0 9 8 0;puts 9;");
        for (int n = 0; n < 10; n++) {
            x.buy(0, 9);
        }
        x.days(1);
        x.buy(0, 9);
        CHECK.due("stock", x.thing(0, 2), 99);
        x.days(1);
        CHECK.due("stock", x.thing(0, 2), 108);
        CHECK.due("as much as it holds", x.best(0, -1), 540);
        CHECK.due("as many as it holds", x.best(0, 0), 60);
        CHECK.due("a case that holds nothing", x.best(1, -1), 0);
        CHECK.due("to hold all", x.toHold(), 108);
    }

    /** "BEST for the CASE that one has, were it empty". */
    private static void bestWereItEmpty() {
        PackedCases x = Texts.with("thing 1 1 9;person 4 9 8 9 by 2;person 2 9 8 9 by 2;person 0 9 8 0;puts 4;");
        x.days(1);
        CHECK.due("0 has four, the cupboard three: three", x.best(0, -1), 3);
        CHECK.due("1 has two: two", x.best(1, -1), 2);
        x.swap(0, 1);
        CHECK.due("0 has 1's case: two", x.best(0, -1), 2);
        CHECK.due("1 has 0's case: three", x.best(1, 0), 3);
        x.swap(0, 2);
        CHECK.due("0 has 2's case: none", x.best(0, -1), 0);
    }

    /** "TO HOLD: the least that a CASE must hold by which all of STOCK that has a USE (not 0) goes into it." */
    private static void toHold() {
        CHECK.due("no things", new PackedCases().toHold(), 0);
        CHECK.due("use 0", Texts.with("thing 20 0 9;").toHold(), 0);
        CHECK.due("use 1", Texts.with("thing 20 1 9;").toHold(), 180);
        CHECK.due("use 9", Texts.with("thing 20 9 9;").toHold(), 180);
        CHECK.due("none in stock", Texts.with("thing 20 9 0;").toHold(), 0);
        CHECK.due("one in stock", Texts.with("thing 20 9 1;").toHold(), 20);
        CHECK.due("all", Texts.with("thing 1 1 2;thing 3 0 4;thing 5 6 7;").toHold(), 37);
        PackedCases x = Texts.with("thing 3 1 5;person 6 9 8 9 by 1;person 0 9 8 0;puts 9;");
        x.days(1);
        CHECK.due("of stock alone, not of cases", x.toHold(), 9);
    }

    /** "BALANCE of a WEIGHT (1 to 99)". */
    private static void balanceOfBounds() {
        PackedCases x = Texts.with("thing 1 0 1;thing 20 0 1;thing 20 0 1;thing 20 0 1;thing 20 0 1;thing 20 0 1;");
        CHECK.illegal("0", () -> x.balance(0));
        CHECK.due("1", x.balance(1), 1);
        CHECK.due("2", x.balance(2), -1);
        CHECK.due("19: 1 with it", x.balance(19), 2);
        CHECK.due("98", x.balance(98), -1);
        CHECK.due("99: all of them", x.balance(99), 6);
        CHECK.illegal("100", () -> x.balance(100));
        CHECK.due("no things", new PackedCases().balance(1), -1);
        CHECK.due("no things", new PackedCases().balance(99), -1);
        CHECK.due("none, for a weight of none", Texts.with("thing 1 0 0;").balance(1), -1);
    }

    /** "THINGS of which STOCK has one or more, one of each at most". */
    private static void balanceOfOneOfEach() {
        CHECK.due("none in stock", Texts.with("thing 5 0 0;").balance(5), -1);
        CHECK.due("one in stock", Texts.with("thing 5 0 1;").balance(5), 1);
        CHECK.due("nine in stock, one is used", Texts.with("thing 5 0 9;").balance(10), -1);
        CHECK.due("another of the same weight", Texts.with("thing 5 0 9;thing 5 0 1;").balance(10), 2);
        CHECK.due("not on both sides", Texts.with("thing 5 0 9;thing 8 0 1;").balance(2), -1);
        CHECK.due("on either side", Texts.with("thing 5 0 9;thing 8 0 1;").balance(3), 2);
        CHECK.due("both against it", Texts.with("thing 5 0 9;thing 8 0 1;").balance(13), 2);
        PackedCases x = Texts.with("thing 5 9 1;person 9 9 8 9 by 1;person 0 9 8 0;");
        CHECK.due("in the cupboard", x.balance(5), 1);
        x.days(1);
        CHECK.due("in a case", x.balance(5), -1);
    }

    /** "by fewest THINGS: how many; none". */
    private static void balanceByFewest() {
        PackedCases x = Texts.with("thing 1 0 1;thing 2 0 1;thing 4 0 1;thing 8 0 1;thing 16 0 1;thing 15 0 1;");
        CHECK.due("15, not 16 less 1", x.balance(15), 1);
        CHECK.due("16", x.balance(16), 1);
        CHECK.due("14: 15 less 1", x.balance(14), 2);
        CHECK.due("31: 15 and 16", x.balance(31), 2);
        CHECK.due("46: all", x.balance(46), 6);
        CHECK.due("47: more than all", x.balance(47), -1);
        CHECK.due("45: all but 1", x.balance(45), 5);
        CHECK.due("44: all but 2", x.balance(44), 5);
    }

    /** "PACKS FOR: for whom one packs (bits)." */
    private static void packsFor() {
        PackedCases x = Texts.with("person 0 2 1 0;" + "person 0 2 1 0 by 0;".repeat(6));
        CHECK.due("0 packs for all others", x.person(0, 7), 126);
        CHECK.due("6 packs for nobody", x.person(6, 7), 0);
        x.packer(0, 6);
        CHECK.due("6 packs for 0", x.person(6, 7), 1);
        x.packer(6, 5);
        CHECK.due("5 packs for 6", x.person(5, 7), 64);
        CHECK.due("0 doesn't any more", x.person(0, 7), 62);
    }

    private static PackedCases inARow(int people) {
        StringBuilder text = new StringBuilder();
        for (int person = 0; person < people; person++) {
            text.append("person 0 2 1 0").append(person + 1 < people ? " by " + (person + 1) : "").append(';');
        }
        return Texts.with(text.toString());
    }

    /** "RING: .. if one comes back to oneself (bits, oneself, too; 0, if not)." */
    private static void ring() {
        for (int people = 1; people <= 7; people++) {
            PackedCases x = inARow(people);
            for (int person = 0; person < people; person++) {
                CHECK.due("a row of " + people, x.person(person, 8), 0);
            }
            for (int back = 0; back < people - 1; back++) {
                x.packer(people - 1, back);
                int bits = (1 << people) - (1 << back);
                for (int person = 0; person < people; person++) {
                    CHECK.due("back to " + back, x.person(person, 8), person >= back ? bits : 0);
                    CHECK.due("it comes round", x.person(person, 9), -1);
                }
            }
        }
    }

    /** "0, if not": one has no PACKER, or comes to a ring of others. */
    private static void ringOfNone() {
        for (int people = 1; people <= 7; people++) {
            PackedCases x = Texts.with("person 0 2 1 0;".repeat(people));
            PackedCases y = Texts.with("person 0 2 1 0;" + "person 0 2 1 0 by 0;".repeat(people - 1));
            for (int person = 0; person < people; person++) {
                CHECK.due("nobody packs", x.person(person, 8), 0);
                CHECK.due("0 packs for all others", y.person(person, 8), 0);
            }
            if (people < 2) {
                continue;
            }
            y.packer(0, people - 1);
            for (int person = 0; person < people; person++) {
                boolean isOfTwo = person == 0 || person == people - 1;
                CHECK.due("the first and the last", y.person(person, 8), isOfTwo ? 1 | 1 << people - 1 : 0);
            }
        }
    }

    /** "CHAIN: how many PACKERS .. until one has none (0: one has none); none, if it comes round." */
    private static void chain() {
        for (int people = 1; people <= 7; people++) {
            PackedCases x = inARow(people);
            for (int person = 0; person < people; person++) {
                CHECK.due("behind " + person, x.person(person, 9), people - 1 - person);
            }
        }
        PackedCases x = inARow(7);
        x.packer(6, 5);
        for (int person = 0; person < 7; person++) {
            CHECK.due("round two at the end", x.person(person, 9), -1);
        }
        x.packer(4, -1);
        CHECK.due("four behind the first", x.person(0, 9), 4);
        CHECK.due("none behind the fifth", x.person(4, 9), 0);
        CHECK.due("round still", x.person(5, 9), -1);
    }

    /** "MIXED: who has another one's CASE (bits)." */
    private static void mixed() {
        PackedCases x = inARow(7);
        CHECK.due("nobody", x.count(4), 0);
        x.swap(0, 6);
        CHECK.due("the first and the last", x.count(4), 65);
        x.swap(6, 3);
        CHECK.due("three", x.count(4), 73);
        x.swap(3, 6);
        x.swap(6, 0);
        CHECK.due("nobody again", x.count(4), 0);
        CHECK.due("nobody at all", new PackedCases().count(4), 0);
    }

    /** "TO RIGHT: the fewest SWAPS by which all have their own". */
    private static void toRight() {
        PackedCases x = inARow(7);
        CHECK.due("none", x.count(5), 0);
        for (int person = 1; person < 7; person++) {
            x.swap(0, person);
            CHECK.due("a round of " + (person + 1), x.count(5), person);
        }
        PackedCases y = inARow(7);
        y.swap(0, 1);
        y.swap(2, 3);
        y.swap(4, 5);
        CHECK.due("three couples", y.count(5), 3);
        y.swap(5, 6);
        CHECK.due("two couples and three", y.count(5), 4);
        y.swap(0, 1);
        CHECK.due("a couple and three", y.count(5), 3);
        for (int swaps = 3; swaps > 0; swaps--) {
            CHECK.due("to right", y.count(5), swaps);
            int first = y.count(6);
            y.swap(first / 10, first % 10);
        }
        CHECK.due("right by the first of each", y.count(4), 0);
        CHECK.due("none", y.count(6), -1);
    }

    /** "the FIRST of them: the least two by whose SWAP fewer are needed (10 by the lesser and the other one); none." */
    private static void firstSwap() {
        CHECK.due("nobody", new PackedCases().count(6), -1);
        for (int person = 0; person < 7; person++) {
            for (int other = 0; other < 7; other++) {
                if (person != other) {
                    PackedCases x = inARow(7);
                    x.swap(person, other);
                    CHECK.due("of two", x.count(6), 10 * Math.min(person, other) + Math.max(person, other));
                }
            }
        }
        // 1, 3, 6 go round; 0 and 2 are a couple: 0 and 1 would only join them
        PackedCases x = inARow(7);
        x.swap(1, 3);
        x.swap(3, 6);
        CHECK.due("of three the least two", x.count(6), 13);
        x.swap(0, 2);
        CHECK.due("0 and 2", x.count(6), 2);
        x.swap(0, 2);
        x.swap(1, 3);
        CHECK.due("two of three", x.count(5), 1);
        CHECK.due("they are left", x.count(6) % 10, 6);
    }

    /** TO RIGHT and the FIRST of every way in which five have mixed them up, by trying all swaps from the right one on. */
    private static void everyMix() {
        Map<String, Integer> swaps = new HashMap<>();
        List<String> found = new ArrayList<>(List.of("01234"));
        swaps.put("01234", 0);
        for (int at = 0; at < found.size(); at++) {
            for (int two = 0; two < 25; two++) {
                String next = swapped(found.get(at), two / 5, two % 5);
                if (swaps.putIfAbsent(next, swaps.get(found.get(at)) + 1) == null) {
                    found.add(next);
                }
            }
        }
        CHECK.due("all ways", found.size(), 120);
        for (String cases : found) {
            PackedCases x = Texts.with("person 0 2 1 0;".repeat(5));
            for (int person = 0; person < 5; person++) {
                int has = x.near(cases.charAt(person) - '0', 1);
                if (has != person) {
                    x.swap(person, has);
                }
            }
            CHECK.due("to right " + cases, x.count(5), swaps.get(cases));
            CHECK.due("the first of " + cases, x.count(6), firstOf(cases, swaps));
        }
    }

    private static String swapped(String cases, int person, int other) {
        StringBuilder next = new StringBuilder(cases);
        next.setCharAt(person, cases.charAt(other));
        next.setCharAt(other, cases.charAt(person));
        return next.toString();
    }

    private static int firstOf(String cases, Map<String, Integer> swaps) {
        for (int two = 0; two < 25; two++) {
            boolean isInOrder = two / 5 < two % 5;
            if (isInOrder && swaps.get(swapped(cases, two / 5, two % 5)) < swaps.get(cases)) {
                return two / 5 * 10 + two % 5;
            }
        }
        return -1;
    }

    /** "IN ALL: how much WEIGHT all CASES and the CUPBOARD have, together." */
    private static void inAll() {
        CHECK.due("nothing", new PackedCases().count(7), 0);
        CHECK.due("none in stock", Texts.with("thing 20 0 0;").count(7), 0);
        PackedCases x = Texts.with("thing 20 0 9;thing 3 9 2;person 60 4 1 9 by 2;person 60 3 1 9 by 2;person 0 9 1 0;");
        for (int day = 0; day < 20; day++) {
            CHECK.due("on day " + day, x.count(7), 186);
            x.days(1);
        }
        x.swap(0, 1);
        CHECK.due("with mixed cases", x.count(7), 186);
        x.buy(0, 1);
        CHECK.due("with one more", x.count(7), 206);
    }
}
