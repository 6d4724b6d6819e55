/** Part 2 of the Terms, a DAY: each sentence with a bound, at the bound and on both sides of it. */
public final class DayEdgesTest {
    private static final Check CHECK = new Check();

    private DayEdgesTest() {
    }

    public static void main(String[] args) {
        atFirst();
        leavesAndComesBack();
        packerAtThatMoment();
        putsIsKept();
        withoutPuts();
        noMoreThanStock();
        noMoreThanRoom();
        whoseOwnItIs();
        whatIsInItStays();
        thingByThing();
        feelsIsKept();
        withoutFeels();
        hadOfTheCaseAtHand();
        backToStock();
        inForThoseBehind();
        onWhichOneComesBack();
        CHECK.end();
    }

    /** "All are IN at first, each with one's own CASE, empty." */
    private static void atFirst() {
        PackedCases x = Texts.with("thing 1 1 9;person 9 2 1 9 by 1;person 9 3 1 9 by 0;");
        CHECK.due("all are in", x.count(3), 3);
        for (int person = 0; person < 2; person++) {
            CHECK.due("in", x.person(person, 6), 0);
            CHECK.due("one's own case", x.person(person, 5), person);
            CHECK.due("empty", x.in(person, 0), 0);
        }
        CHECK.due("the day is 0", x.count(2), 0);
    }

    /** "leaves, if DAY MOD EVERY is 0 .. One is OUT then, for AWAY DAYS .. with none left one comes back". */
    private static void leavesAndComesBack() {
        for (int every = 2; every <= 9; every++) {
            for (int away = 1; away < every; away++) {
                PackedCases x = Texts.with("person 0 " + every + " " + away + " 0;");
                for (int day = 0; day < 30; day++) {
                    CHECK.due("day", x.days(1), day + 1);
                    int since = day % every;
                    int left = since < away ? away - since : 0;
                    String when = every + " " + away + " behind day " + day;
                    CHECK.due(when + ": days out", x.person(0, 6), left);
                    CHECK.due(when + ": who is in", x.count(3), left == 0 ? 1 : 0);
                }
            }
        }
    }

    /** "packed, if one has a PACKER and that one is IN at that moment .. Without that nothing is put in." */
    private static void packerAtThatMoment() {
        // the packer stands ahead: leaves on day 0, comes back on day 2, leaves on day 4
        PackedCases x = Texts.with("thing 1 0 9;person 0 4 2 0;person 9 2 1 0 by 0;");
        CHECK.due("left just ahead", x.packed(1, 0, 1), 0);
        CHECK.due("came back just ahead", x.packed(1, 0, 3), 1);
        CHECK.due("left just ahead", x.packed(1, 0, 5), 0);
        // the packer stands behind, with the same days
        PackedCases y = Texts.with("thing 1 0 9;person 9 2 1 0 by 1;person 0 4 2 0;");
        CHECK.due("leaves just behind", y.packed(0, 0, 1), 1);
        CHECK.due("comes back just behind", y.packed(0, 0, 3), 0);
        CHECK.due("leaves just behind", y.packed(0, 0, 5), 1);
        PackedCases z = Texts.with("thing 1 0 9;person 9 2 1 0;person 0 9 1 0;");
        CHECK.due("nobody packs", z.packed(0, 0, 3), 0);
        z.packer(0, 1);
        CHECK.due("on day 0, ahead of 1's leaving", z.packed(0, 0, 1), 1);
        CHECK.due("on day 2", z.packed(0, 0, 3), 1);
        CHECK.due("one leaves nevertheless", z.then(0, 3, 0), 0);
        PackedCases w = Texts.with("thing 1 0 9;person 9 3 1 0 by 1;person 9 9 8 0;");
        CHECK.due("1 is out for long", w.packed(0, 0, 4), 0);
        CHECK.due("1 is out on day 6", w.packed(0, 0, 7), 0);
        CHECK.due("1 came back on day 8, leaves behind 0 on day 9", w.packed(0, 0, 10), 1);
    }

    private static int puts(String expr) {
        PackedCases x = Texts.with("thing 1 0 9;person 60 9 8 0 by 1;person 0 9 8 0;puts " + expr + ";");
        x.buy(0, 9);
        return x.packed(0, 0, 1);
    }

    /** "so many are put in as PUTS gives, kept to 0 to 9": 18 are there, and there is room for all. */
    private static void putsIsKept() {
        CHECK.due("puts 0-2", puts("0-2"), 0);
        CHECK.due("puts 0-1", puts("0-1"), 0);
        for (int many = 0; many <= 9; many++) {
            CHECK.due("puts " + many, puts("" + many), many);
        }
        CHECK.due("puts 10", puts("10"), 9);
        CHECK.due("puts 11", puts("11"), 9);
        CHECK.due("puts 9999", puts("9999"), 9);
        CHECK.due("puts the least int", puts("2048*1024*1024"), 0);
        CHECK.due("puts the greatest int", puts("2048*1024*1024-1"), 9);
    }

    /** "(without it 1, if USE is no more than FOND, else 0)". */
    private static void withoutPuts() {
        for (int use = 0; use <= 9; use++) {
            for (int fond = 0; fond <= 9; fond++) {
                PackedCases x = Texts.with("thing 1 " + use + " 9;person 60 9 8 " + fond + " by 1;person 0 9 8 0;");
                CHECK.due("use " + use + ", fond " + fond, x.packed(0, 0, 1), use <= fond ? 1 : 0);
            }
        }
    }

    /** "but no more than STOCK .. STOCK is as many less." */
    private static void noMoreThanStock() {
        for (int stock = 0; stock <= 9; stock++) {
            PackedCases x = Texts.with("thing 1 0 " + stock + ";person 60 9 8 0 by 1;person 0 9 8 0;puts 5;");
            x.days(1);
            CHECK.due("5 of " + stock, x.in(0, 0), Math.min(5, stock));
            CHECK.due("stock is as many less", x.thing(0, 2), Math.max(0, stock - 5));
        }
        PackedCases x = Texts.with("thing 1 0 0;person 60 9 8 9 by 1;person 0 9 8 0;");
        CHECK.due("without puts, of none", x.packed(0, 0, 1), 0);
        // 4 for each: the last ones go to 1, none to 2
        PackedCases y = Texts.with("thing 1 0 6;person 60 9 8 0 by 3;person 60 9 8 0 by 3;person 60 9 8 0 by 3;"
                + "person 0 9 8 0;puts 4;");
        y.days(1);
        CHECK.due("the first four", y.in(0, 0), 4);
        CHECK.due("the last two", y.in(1, 0), 2);
        CHECK.due("none", y.in(2, 0), 0);
        CHECK.due("stock", y.thing(0, 2), 0);
    }

    /** "and no more than there is room for by WEIGHT". */
    private static void noMoreThanRoom() {
        for (int weight = 1; weight <= 20; weight++) {
            for (int holds = 0; holds <= 60; holds++) {
                PackedCases x = Texts.with("thing " + weight + " 0 9;person " + holds
                        + " 9 8 0 by 1;person 0 9 8 0;puts 9;");
                CHECK.due("of " + weight + " into " + holds, x.packed(0, 0, 1), Math.min(9, holds / weight));
            }
        }
        for (int holds = 0; holds <= 2; holds++) {
            PackedCases x = Texts.with("thing 1 0 9;person " + holds + " 9 8 0 by 1;person 0 9 8 0;");
            CHECK.due("without puts, into " + holds, x.packed(0, 0, 1), Math.min(1, holds));
        }
    }

    /** "one's CASE (that which one has) is packed .. what the CASE HOLDS, as told of whose own it is". */
    private static void whoseOwnItIs() {
        PackedCases x = Texts.with("thing 1 0 9;person 3 9 8 0 by 2;person 5 8 7 0 by 2;person 0 9 8 0;puts 9;");
        x.swap(0, 1);
        x.days(1);
        CHECK.due("0 has 1's case, which holds 5", x.in(0, 0), 5);
        CHECK.due("1 has 0's case, which holds 3", x.in(1, 0), 3);
        CHECK.due("told of 0", x.person(0, 0), 3);
        CHECK.due("told of 1", x.person(1, 0), 5);
        x.swap(0, 1);
        CHECK.due("what is in a case goes with it", x.in(0, 0), 3);
        CHECK.due("what is in a case goes with it", x.in(1, 0), 5);
    }

    /** "less WEIGHT of what is in it; that stays in it": 0's case has 4 of 2 in it when 1 is packed for. */
    private static void whatIsInItStays() {
        for (int holds = 8; holds <= 14; holds++) {
            PackedCases x = Texts.with("thing 2 0 9;person " + holds + " 9 8 0 by 2;person 0 2 1 0 by 2;"
                    + "person 0 9 1 0;puts 4-day/2;");
            x.days(2);
            CHECK.due("0 left with 4", x.in(0, 0), 4);
            x.swap(0, 1);
            x.days(1);
            int more = Math.min(3, (holds - 8) / 2);
            CHECK.due("into " + holds, x.in(1, 0), 4 + more);
            CHECK.due("stock", x.thing(0, 2), 5 - more);
        }
        // nobody packs for 1: what is in it stays, and one doesn't leave with an empty case
        PackedCases y = Texts.with("thing 2 0 9;person 8 9 8 0 by 2;person 0 2 1 0;person 0 9 1 0;puts 4;");
        y.days(2);
        y.swap(0, 1);
        CHECK.due("no empty case", y.later(1, 2), 0);
        y.days(1);
        CHECK.due("it stays in it", y.in(1, 0), 4);
        CHECK.due("stock", y.thing(0, 2), 5);
    }

    /** "THING by THING": the first ones take the room. */
    private static void thingByThing() {
        PackedCases x = Texts.with("thing 5 0 9;thing 3 0 9;thing 2 0 9;person 20 9 8 0 by 1;person 0 9 8 0;puts 2;");
        x.days(1);
        CHECK.due("two of 5", x.in(0, 0), 2);
        CHECK.due("two of 3", x.in(0, 1), 2);
        CHECK.due("two of 2: 4 are left", x.in(0, 2), 2);
        PackedCases y = Texts.with("thing 5 0 9;thing 3 0 9;thing 2 0 9;person 19 9 8 0 by 1;person 0 9 8 0;puts 2;");
        y.days(1);
        CHECK.due("two of 3", y.in(0, 1), 2);
        CHECK.due("one of 2: 3 are left", y.in(0, 2), 1);
        PackedCases z = Texts.with("thing 20 0 9;thing 1 0 9;person 19 9 8 0 by 1;person 0 9 8 0;puts 2;");
        z.days(1);
        CHECK.due("none of 20", z.in(0, 0), 0);
        CHECK.due("those behind, nevertheless", z.in(0, 1), 2);
    }

    private static int feels(String expr) {
        return Texts.with("person 0 9 8 5;feels " + expr + ";").then(0, 9, 1);
    }

    /** "FOND is what FEELS gives, kept to 0 to 9". */
    private static void feelsIsKept() {
        CHECK.due("feels 0-2", feels("0-2"), 0);
        CHECK.due("feels 0-1", feels("0-1"), 0);
        for (int fond = 0; fond <= 9; fond++) {
            CHECK.due("feels " + fond, feels("" + fond), fond);
        }
        CHECK.due("feels 10", feels("10"), 9);
        CHECK.due("feels 11", feels("11"), 9);
        CHECK.due("feels the least int", feels("2048*1024*1024"), 0);
        CHECK.due("feels the greatest int", feels("2048*1024*1024-1"), 9);
        CHECK.due("not ahead of one's coming back", Texts.with("person 0 9 8 5;feels 7;").then(0, 8, 1), 5);
    }

    /** "(without it 1 more, if one HAD 10 or more, else 1 less; kept, too)". */
    private static void withoutFeels() {
        String[] things = {"", "thing 1 8 1;", "thing 1 9 1;", "thing 1 5 2;", "thing 1 5 1;thing 1 6 1;", "thing 1 9 9;"};
        int[] had = {0, 8, 9, 10, 11, 81};
        for (int at = 0; at < had.length; at++) {
            for (int fond = 0; fond <= 9; fond++) {
                PackedCases x = Texts.with(things[at] + "person 60 9 8 " + fond + " by 1;person 0 9 8 0;puts 9;");
                CHECK.due("had", x.then(0, 8, 2), had[at]);
                int due = had[at] >= 10 ? Math.min(9, fond + 1) : Math.max(0, fond - 1);
                CHECK.due("fond " + fond + " behind " + had[at], x.then(0, 9, 1), due);
            }
        }
    }

    /** "'had' (USE of all in one's CASE, together)": in the one that one has when one comes back. */
    private static void hadOfTheCaseAtHand() {
        PackedCases x = Texts.with("thing 1 3 9;person 9 9 2 0 by 2;person 9 9 3 0;person 0 9 8 0;puts 3;feels had;");
        x.days(2);
        x.swap(0, 1);
        x.days(1);
        CHECK.due("0 comes back with nothing", x.person(0, 3), 0);
        CHECK.due("nothing goes back", x.thing(0, 2), 6);
        x.days(1);
        CHECK.due("1 comes back with all", x.person(1, 3), 9);
        CHECK.due("all goes back", x.thing(0, 2), 9);
        CHECK.due("nothing is in it", x.in(1, 0), 0);
    }

    /** "all that is in the CASE that one has goes back to STOCK (which may be above 99 then)". */
    private static void backToStock() {
        for (int out = 1; out <= 9; out++) {
            PackedCases x = Texts.with("thing 1 0 9;person 9 9 1 0 by 1;person 0 9 8 0;puts " + out + ";");
            for (int bought = 0; bought < 10; bought++) {
                x.buy(0, 9);
            }
            CHECK.due("all that may be bought", x.thing(0, 2), 99);
            CHECK.due("none more", x.buy(0, 1), -1);
            x.days(1);
            CHECK.due("some are out", x.thing(0, 2), 99 - out);
            CHECK.due("so many may be bought", x.buy(0, out), 99);
            x.days(1);
            CHECK.due("above 99", x.thing(0, 2), 99 + out);
            CHECK.due("none more", x.buy(0, 1), -1);
            CHECK.due("in all", x.count(7), 99 + out);
            CHECK.due("all are put in again", x.packed(0, 0, 8), out);
        }
    }

    /** "and one is IN, for those behind, too": not for those ahead. */
    private static void inForThoseBehind() {
        PackedCases x = Texts.with("thing 1 0 9;person 9 2 1 0 by 1;person 0 9 2 0;person 9 2 1 0 by 1;puts 1;");
        x.days(3);
        CHECK.due("0 is ahead", x.in(0, 0), 0);
        CHECK.due("2 is behind", x.in(2, 0), 1);
        // what 0 brings back is in the cupboard for 1, not the other way round
        PackedCases y = Texts.with("thing 1 0 1;person 9 9 2 0 by 2;person 9 2 1 0 by 2;person 0 9 1 0;puts 1;");
        y.days(1);
        CHECK.due("0 took it", y.in(0, 0), 1);
        y.days(2);
        CHECK.due("1 takes it, as 0 came back just ahead", y.in(1, 0), 1);
        PackedCases z = Texts.with("thing 1 0 1;person 8 2 1 0 by 2;person 9 9 2 0 by 2;person 0 9 1 0;"
                + "puts (day=0)*(room=9)+(0<day);");
        CHECK.due("1 takes it on day 0", z.packed(1, 0, 1), 1);
        CHECK.due("0 can't have it on day 2, as 1 comes back just behind", z.packed(0, 0, 3), 0);
        CHECK.due("it is in the cupboard then", z.cupboard(0, 3), 1);
        CHECK.due("0 takes it on day 4", z.packed(0, 0, 5), 1);
    }

    /** "(On a DAY on which one comes back one doesn't leave.)": days without trains bring such days about. */
    private static void onWhichOneComesBack() {
        // out on day 0; no train on day 1, back on day 2, on which it would leave: 0.7 * 0.3 * 0.7
        // no train on days 0, 1, 2: 0.3 * 0.3 * 0.3; on day 0, 2: out never, 0.3 * 0.7 * 0.3; out, back, none: 0.7 * 0.7 * 0.3
        PackedCases x = Texts.with("person 0 2 1 0;");
        CHECK.due("three days", x.trains(0, 3, 3), 147 + 27 + 63 + 147);
        CHECK.due("two days", x.trains(0, 2, 3), 49 + 9 + 21);
    }
}
