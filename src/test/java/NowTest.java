/** Promises 5 to 8 and 37: what is now. */
public final class NowTest {
    private static final Check CHECK = new Check();
    static final String HOUSE = "thing 3 5 2;thing 10 2 1;person 12 4 2 6 by 1;person 5 3 1 1 by 0;person 20 2 1 9;";

    private NowTest() {
    }

    public static void main(String[] args) {
        told();
        wrongInputs();
        counts();
        mostWanted();
        mixed();
        rings();
        near();
        CHECK.end();
    }

    private static void told() {
        PackedCases x = Texts.with(HOUSE);
        int[][] things = {{3, 5, 2}, {10, 2, 1}};
        for (int thing = 0; thing < 2; thing++) {
            for (int what = 0; what < 3; what++) {
                CHECK.due("thing " + thing + " " + what, x.thing(thing, what), things[thing][what]);
            }
        }
        int[][] people = {
            {12, 4, 2, 6, 1, 0, 0, 2, 3, -1}, {5, 3, 1, 1, 0, 1, 0, 1, 3, -1}, {20, 2, 1, 9, -1, 2, 0, 0, 0, 0}};
        for (int person = 0; person < 3; person++) {
            for (int what = 0; what < 10; what++) {
                CHECK.due("person " + person + " " + what, x.person(person, what), people[person][what]);
            }
        }
    }

    private static void wrongInputs() {
        PackedCases x = Texts.with(HOUSE);
        int far = Integer.MAX_VALUE;
        int low = Integer.MIN_VALUE;
        for (int wrong : new int[] {-1, 15, far, low}) {
            CHECK.none("count " + wrong, () -> x.count(wrong));
        }
        for (int wrong : new int[] {-1, 2, far, low}) {
            CHECK.none("thing " + wrong, () -> x.thing(wrong, 0));
            CHECK.none("in of thing " + wrong, () -> x.in(0, wrong));
            CHECK.none("near " + wrong, () -> x.near(0, wrong));
        }
        for (int wrong : new int[] {-1, 3, far, low}) {
            CHECK.none("thing's what " + wrong, () -> x.thing(0, wrong));
            CHECK.none("person " + wrong, () -> x.person(wrong, 0));
            CHECK.none("in of person " + wrong, () -> x.in(wrong, 0));
            CHECK.none("near of person " + wrong, () -> x.near(wrong, 0));
        }
        for (int wrong : new int[] {-1, 10, far, low}) {
            CHECK.none("person's what " + wrong, () -> x.person(0, wrong));
        }
    }

    private static void counts() {
        PackedCases x = Texts.with(HOUSE);
        CHECK.due("things", x.count(0), 2);
        CHECK.due("people", x.count(1), 3);
        CHECK.due("day", x.count(2), 0);
        CHECK.due("in", x.count(3), 7);
        CHECK.due("in all", x.count(7), 16);
        CHECK.due("acts", x.count(9), 0);
        x.days(1);
        CHECK.due("day", x.count(2), 1);
        CHECK.due("all are out", x.count(3), 0);
        CHECK.due("in 0 0", x.in(0, 0), 1);
        CHECK.due("in 0 1", x.in(0, 1), 0);
        CHECK.due("in 1 0: its packer was out", x.in(1, 0), 0);
        CHECK.due("stock", x.thing(0, 2), 1);
        CHECK.due("days out", x.person(0, 6), 2);
        CHECK.due("in all, with what is in cases", x.count(7), 16);
        CHECK.due("acts", x.count(9), 1);
        x.days(1);
        CHECK.due("1 and 2 are in", x.count(3), 6);
        CHECK.due("days out", x.person(0, 6), 1);
        x.days(1);
        CHECK.due("2 is out", x.count(3), 3);
        CHECK.due("0 is in", x.person(0, 6), 0);
        CHECK.due("its case is empty", x.in(0, 0), 0);
        CHECK.due("stock", x.thing(0, 2), 2);
        x.buy(1, 2);
        CHECK.due("in all, with what is bought", x.count(7), 36);
        x.feed(1, 2, 3, 4, 5);
        CHECK.due("the tape", x.count(11), 20);
    }

    private static void mostWanted() {
        PackedCases x = Texts.with("thing 1 0 1;thing 1 0 5;thing 1 0 5;"
                + "person 9 2 1 0 by 2;person 9 2 1 0 by 2;person 0 9 8 0;puts 2;");
        CHECK.due("all are empty", x.count(8), -1);
        x.days(1);
        CHECK.due("of like ones the least", x.count(8), 1);
        CHECK.due("a case has 1 of thing 0", x.in(0, 0), 1);
        CHECK.due("the other has none", x.in(1, 0), 0);
        CHECK.due("both have 2 of thing 1", x.in(0, 1) + x.in(1, 1), 4);
    }

    private static void mixed() {
        PackedCases x = Texts.with("person 0 2 1 0;".repeat(7));
        CHECK.due("none to right", x.count(6), -1);
        x.swap(2, 4);
        CHECK.due("mixed", x.count(4), 20);
        CHECK.due("to right", x.count(5), 1);
        CHECK.due("the first", x.count(6), 24);
        x.swap(4, 1);
        CHECK.due("mixed, three", x.count(4), 22);
        CHECK.due("to right, three", x.count(5), 2);
        CHECK.due("the first, three", x.count(6), 12);
        x.swap(6, 5);
        CHECK.due("mixed, two rounds", x.count(4), 118);
        CHECK.due("to right, two rounds", x.count(5), 3);
        x.swap(6, 0);
        CHECK.due("the first is across 0", x.count(6), 5);
        CHECK.due("to right", x.count(5), 4);
        x.swap(0, 1);
        CHECK.due("all but 3 in one round", x.count(5), 5);
        x.swap(3, 6);
        CHECK.due("one round of seven", x.count(5), 6);
        CHECK.due("mixed, all", x.count(4), 127);
        CHECK.due("the first", x.count(6), 1);
        x.swap(0, 1);
        CHECK.due("fewer then", x.count(5), 5);
    }

    private static void rings() {
        // 0 -> 1 -> 2 -> 1: a ring that 0 only leads to; 3 -> 4 -> nobody; 5 -> 0
        PackedCases x = Texts.with("person 0 2 1 0 by 1;person 0 2 1 0 by 2;person 0 2 1 0 by 1;"
                + "person 0 2 1 0 by 4;person 0 2 1 0;person 0 2 1 0 by 0;");
        int[] packs = {32, 5, 2, 0, 8, 0};
        int[] ring = {0, 6, 6, 0, 0, 0};
        int[] chain = {-1, -1, -1, 1, 0, -1};
        for (int person = 0; person < 6; person++) {
            CHECK.due("packs for " + person, x.person(person, 7), packs[person]);
            CHECK.due("ring " + person, x.person(person, 8), ring[person]);
            CHECK.due("chain " + person, x.person(person, 9), chain[person]);
        }
        PackedCases y = Texts.with("person 0 2 1 0 by 1;person 0 2 1 0 by 2;person 0 2 1 0 by 3;person 0 2 1 0 by 4;"
                + "person 0 2 1 0 by 5;person 0 2 1 0 by 6;person 0 2 1 0;");
        CHECK.due("the longest chain", y.person(0, 9), 6);
        CHECK.due("no ring", y.person(0, 8), 0);
        y.packer(6, 0);
        CHECK.due("the longest ring", y.person(3, 8), 127);
        CHECK.due("it comes round", y.person(0, 9), -1);
    }

    private static void near() {
        PackedCases x = Texts.with("person 0 2 1 3;person 0 2 1 4 by 0;person 0 2 1 6 by 0;person 0 2 1 6 by 0;"
                + "person 0 2 1 9 by 1;");
        CHECK.due("fondest, of like ones the least", x.near(0, 0), 2);
        CHECK.due("fondest of one", x.near(1, 0), 4);
        CHECK.due("for nobody", x.near(2, 0), -1);
        x.mend(1, 7);
        CHECK.due("fondest by now", x.near(0, 0), 1);
        x.swap(0, 3);
        x.swap(3, 4);
        CHECK.due("who has 0's", x.near(0, 1), 4);
        CHECK.due("who has 3's", x.near(3, 1), 0);
        CHECK.due("who has 4's", x.near(4, 1), 3);
        CHECK.due("who has 1's", x.near(1, 1), 1);
        CHECK.due("whose case 3 has", x.person(3, 5), 4);
    }
}
