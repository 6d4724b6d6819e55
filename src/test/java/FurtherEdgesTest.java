/** Part 5 of the Terms (promises 18, 32 to 39): each sentence with a bound, at the bound and on both sides of it. */
public final class FurtherEdgesTest {
    private static final Check CHECK = new Check();

    private FurtherEdgesTest() {
    }

    public static void main(String[] args) {
        heaviest();
        trips();
        hadBest();
        hadBestOfLikeOnes();
        daysTogether();
        daysOfOneAlone();
        ofOneAndTheSame();
        mostWanted();
        mostWantedOfAll();
        least();
        fondest();
        whoHas();
        greatestTrip();
        without();
        withoutFromNowOn();
        CHECK.end();
    }

    /** 1 packs for 0, who leaves every so many days, for one; 1 leaves behind 0 on days 0, 8, 16 and so on. */
    private static PackedCases one(int every, String puts) {
        return Texts.with("thing 2 3 9;person 60 " + every + " 1 5 by 1;person 0 8 1 5;puts " + puts + ";feels fond;");
    }

    /** "HEAVIEST behind so many DAYS (0 to 100): .. (of like ones the least; none, if all are empty)." */
    private static void heaviest() {
        CHECK.due("nobody", new PackedCases().later(0, 3), -1);
        CHECK.due("all are empty", Texts.with("thing 1 1 9;person 9 2 1 9;").later(100, 3), -1);
        String people = "person %d 9 8 9 by 2;person %d 9 8 9 by 2;person 0 9 8 0;puts 9;";
        int[][] holds = {{0, 0, -1}, {1, 0, 0}, {0, 1, 1}, {1, 1, 0}, {4, 5, 1}, {5, 4, 0}, {4, 4, 0}};
        for (int[] row : holds) {
            PackedCases x = Texts.with("thing 1 1 9;thing 1 0 9;" + String.format(people, row[0], row[1]));
            CHECK.due("now", x.later(0, 3), -1);
            CHECK.due("behind a day " + row[0] + " " + row[1], x.later(1, 3), row[2]);
        }
        // more pieces, but less weight
        PackedCases y = Texts.with("thing 9 0 1;thing 1 0 9;" + String.format(people, 9, 8));
        CHECK.due("by weight", y.later(1, 3), 0);
        y.days(1);
        y.swap(0, 2);
        CHECK.due("who has the case now", y.later(0, 3), 2);
        PackedCases z = one(3, "(day=99)");
        CHECK.due("behind 99", z.later(99, 3), -1);
        CHECK.due("behind 100", z.later(100, 3), 0);
        PackedCases w = one(2, "(day=98)");
        CHECK.due("behind 99", w.later(99, 3), 0);
        CHECK.due("behind 100", w.later(100, 3), -1);
    }

    /** "TRIPS of one in so many DAYS (0 to 100): how often one leaves." */
    private static void trips() {
        for (int every = 2; every <= 9; every++) {
            PackedCases x = Texts.with("person 0 " + every + " " + (every - 1) + " 0;");
            for (int days = 0; days <= 100; days++) {
                CHECK.due("every " + every + " in " + days, x.trips(0, days, 0), (days + every - 1) / every);
            }
            x.days(1);
            CHECK.due("behind day 0: in " + (every - 1), x.trips(0, every - 1, 0), 0);
            CHECK.due("behind day 0: in " + every, x.trips(0, every, 0), 1);
        }
        PackedCases x = Texts.with("person 0 2 1 0;person 0 9 1 0;");
        CHECK.due("of one, not of all", x.trips(1, 9, 0), 1);
        CHECK.due("of one, not of all", x.trips(0, 9, 0), 5);
    }

    /** "HAD BEST in so many DAYS (0 to 100): behind how many of these (0 on) one HAS most USE in the CASE". */
    private static void hadBest() {
        PackedCases x = one(3, "(day=99)");
        CHECK.due("in 0", x.trips(0, 0, 1), 0);
        CHECK.due("in 99", x.trips(0, 99, 1), 0);
        CHECK.due("in 100", x.trips(0, 100, 1), 100);
        PackedCases y = one(3, "1+day/3");
        CHECK.due("now", y.trips(0, 0, 1), 0);
        CHECK.due("in 1", y.trips(0, 1, 1), 1);
        CHECK.due("in 3", y.trips(0, 3, 1), 1);
        CHECK.due("in 4: one more", y.trips(0, 4, 1), 4);
        y.days(4);
        CHECK.due("now there is most", y.trips(0, 0, 1), 0);
        CHECK.due("in 2 still", y.trips(0, 2, 1), 0);
        CHECK.due("in 3: one more", y.trips(0, 3, 1), 3);
        // by use, not by weight: three of 3 on day 0, one of 20 on day 2
        PackedCases z = Texts.with("thing 3 2 9;thing 20 5 9;person 60 2 1 9 by 1;person 0 8 1 0;"
                + "puts (day=0)*(weight=3)*3+(day=2)*(weight=20);");
        CHECK.due("six are more than five", z.trips(0, 9, 1), 1);
    }

    /** "(of like ones the first)". */
    private static void hadBestOfLikeOnes() {
        PackedCases x = one(2, "2");
        CHECK.due("all alike", x.trips(0, 100, 1), 1);
        CHECK.due("never any", x.trips(1, 100, 1), 0);
        PackedCases y = Texts.with("thing 2 0 9;person 60 2 1 5 by 1;person 0 8 1 5;puts 2;");
        CHECK.due("of no use", y.trips(0, 100, 1), 0);
        // out for long: the first of the days with it
        PackedCases z = Texts.with("thing 2 3 9;person 60 9 8 5 by 1;person 0 7 1 5;puts 2;");
        z.days(9);
        CHECK.due("behind day 9 and on", z.trips(0, 8, 1), 1);
    }

    /** "TOGETHER: in how many of so many DAYS (1 to 100) two are both IN at the end"; "AWAY BOTH", both OUT. */
    private static void daysTogether() {
        int[][] people = {{2, 1}, {4, 2}, {3, 1}, {9, 8}};
        PackedCases x = Texts.with("person 0 2 1 0;person 0 4 2 0;person 0 3 1 0;person 0 9 8 0;");
        for (int first = 0; first < 3; first++) {
            for (int person = 0; person < 4; person++) {
                for (int other = 0; other < 4; other++) {
                    for (int days : new int[] {1, 2, 3, 35, 36, 99, 100}) {
                        int in = 0;
                        int out = 0;
                        for (int day = first; day < first + days; day++) {
                            boolean isOut = day % people[person][0] < people[person][1];
                            boolean otherIsOut = day % people[other][0] < people[other][1];
                            in += !isOut && !otherIsOut ? 1 : 0;
                            out += isOut && otherIsOut ? 1 : 0;
                        }
                        String two = person + " and " + other + " in " + days + " from day " + first;
                        CHECK.due("together " + two, x.together(person, other, days), in);
                        CHECK.due("away both " + two, x.awayBoth(person, other, days), out);
                    }
                }
            }
            x = Texts.with("person 0 2 1 0;person 0 4 2 0;person 0 3 1 0;person 0 9 8 0;");
            x.days(first + 1);
        }
        PackedCases y = Texts.with("person 0 2 1 0;person 0 2 1 0;");
        CHECK.illegal("together 0", () -> y.together(0, 1, 0));
        CHECK.due("together 1", y.together(0, 1, 1), 0);
        CHECK.due("together 100", y.together(0, 1, 100), 50);
        CHECK.illegal("together 101", () -> y.together(0, 1, 101));
        CHECK.illegal("away both 0", () -> y.awayBoth(0, 1, 0));
        CHECK.due("away both 1", y.awayBoth(0, 1, 1), 1);
        CHECK.due("away both 100", y.awayBoth(0, 1, 100), 50);
        CHECK.illegal("away both 101", () -> y.awayBoth(0, 1, 101));
    }

    /** "ALONE: in how many of so many DAYS (1 to 100) nobody is IN at the end." */
    private static void daysOfOneAlone() {
        PackedCases x = Texts.with("person 0 2 1 0;person 0 3 2 0;");
        // both are out behind days 0, 4 of six
        int[] due = {1, 1, 1, 1, 2, 2, 3, 3};
        for (int days = 1; days <= due.length; days++) {
            CHECK.due("alone in " + days, x.alone(days), due[days - 1]);
        }
        CHECK.due("alone in 99", x.alone(99), 33);
        CHECK.due("alone in 100", x.alone(100), 33);
        CHECK.illegal("alone in 0", () -> x.alone(0));
        CHECK.illegal("alone in 101", () -> x.alone(101));
        CHECK.due("nobody is there: in 1", new PackedCases().alone(1), 1);
        CHECK.due("nobody is there: in 100", new PackedCases().alone(100), 100);
        CHECK.due("one of seven is in", Texts.with("person 0 9 8 0;".repeat(6) + "person 0 2 1 0;").alone(8), 4);
        CHECK.due("seven", Texts.with("person 0 9 8 0;".repeat(7)).alone(9), 8);
    }

    /** Nothing is said against two who are one: that one's days. */
    private static void ofOneAndTheSame() {
        PackedCases x = Texts.with("person 0 4 1 0;");
        CHECK.due("in", x.together(0, 0, 8), 6);
        CHECK.due("out", x.awayBoth(0, 0, 8), 2);
    }

    /** "MOST WANTED: .. most pieces are in all CASES now, together (of like ones the least); none, if all are empty." */
    private static void mostWanted() {
        CHECK.due("nothing", new PackedCases().count(8), -1);
        int[][] rows = {{0, 0, -1}, {1, 0, 0}, {0, 1, 1}, {1, 1, 0}, {3, 4, 1}, {4, 3, 0}, {9, 9, 0}};
        for (int[] row : rows) {
            PackedCases x = Texts.with("thing 1 0 " + row[0] + ";thing 2 0 " + row[1] + ";person 5 9 8 9 by 2;"
                    + "person 60 9 8 9 by 2;person 0 9 8 0;puts 9;");
            CHECK.due("all are empty", x.count(8), -1);
            x.days(1);
            CHECK.due(row[0] + " and " + row[1], x.count(8), row[2]);
            x.swap(0, 2);
            CHECK.due("whoever has the cases", x.count(8), row[2]);
            x.buy(0, 9);
            CHECK.due("not of stock", x.count(8), row[2]);
        }
        // 3 of thing 1 in one case, 2 and 2 of thing 0 in two
        PackedCases x = Texts.with("thing 1 1 4;thing 1 2 3;person 2 9 8 9 by 2;person 5 9 8 9 by 2;person 0 9 8 0;"
                + "puts (use=1)*2+(use=2)*3;");
        x.days(1);
        CHECK.due("two", x.in(0, 0), 2);
        CHECK.due("two", x.in(1, 0), 2);
        CHECK.due("three", x.in(1, 1), 3);
        CHECK.due("together", x.count(8), 0);
    }

    /** The same with as many THINGS and PEOPLE as there may be. */
    private static void mostWantedOfAll() {
        for (int most = 0; most < 6; most++) {
            StringBuilder text = new StringBuilder();
            for (int thing = 0; thing < 6; thing++) {
                text.append("thing ").append(1 + thing).append(" 0 9;");
            }
            text.append("person 20 9 8 0 by 6;".repeat(6)).append("person 0 9 8 0;");
            PackedCases x = Texts.with(text.append("puts weight=").append(most + 1).append(";").toString());
            CHECK.due("all are empty", x.count(8), -1);
            x.days(1);
            CHECK.due("six of " + most, x.count(8), most);
            x.swap(0, 6);
            CHECK.due("whoever has them", x.count(8), most);
        }
    }

    /** "LEAST of a THING in so many DAYS (0 to 100): the least STOCK that there is now, or behind one of them." */
    private static void least() {
        PackedCases x = one(3, "(day=99)*4");
        CHECK.due("in 0", x.least(0, 0), 9);
        CHECK.due("in 99", x.least(0, 99), 9);
        CHECK.due("in 100", x.least(0, 100), 5);
        PackedCases y = one(3, "4-day/3");
        CHECK.due("in 0", y.least(0, 0), 9);
        CHECK.due("in 1", y.least(0, 1), 5);
        CHECK.due("in 100", y.least(0, 100), 5);
        y.days(1);
        CHECK.due("now", y.least(0, 0), 5);
        CHECK.due("now, in 100", y.least(0, 100), 5);
        y.days(1);
        CHECK.due("behind it", y.least(0, 2), 6);
        PackedCases z = one(3, "9");
        CHECK.due("none at all", z.least(0, 1), 0);
        CHECK.due("none in stock", Texts.with("thing 1 1 0;").least(0, 100), 0);
        // on day 2 0 takes the last four, then 1 brings back five: none is there in between, not behind the day
        PackedCases w = Texts.with("thing 1 1 9;person 6 2 1 9 by 2;person 5 9 2 9 by 2;person 0 8 1 0;"
                + "puts ((day=0)*(room=5)+(day=2)*(room=6))*5;");
        CHECK.due("0 takes four", w.packed(0, 0, 3), 4);
        CHECK.due("five are there behind it", w.cupboard(0, 3), 5);
        CHECK.due("behind days alone", w.least(0, 3), 4);
    }

    /** "FONDEST: of whom, of those for whom one packs, one is most FOND now (of like ones the least); none." */
    private static void fondest() {
        CHECK.due("for nobody", Texts.with("person 0 2 1 9;person 0 2 1 9;").near(0, 0), -1);
        CHECK.due("for one", Texts.with("person 0 2 1 9;person 0 2 1 0 by 0;").near(0, 0), 1);
        int[][] fond = {{0, 0, 1}, {9, 9, 1}, {4, 5, 2}, {5, 4, 1}, {0, 9, 2}};
        for (int[] row : fond) {
            PackedCases x = Texts.with("person 0 2 1 9;person 0 2 1 " + row[0] + " by 0;person 0 2 1 " + row[1]
                    + " by 0;person 0 2 1 9 by 1;person 0 2 1 9;");
            CHECK.due(row[0] + " and " + row[1], x.near(0, 0), row[2]);
            CHECK.due("of another", x.near(1, 0), 3);
            x.mend(3 - row[2], 9);
            x.mend(row[2], 8);
            CHECK.due("by now", x.near(0, 0), 3 - row[2]);
            x.packer(3 - row[2], -1);
            CHECK.due("one less", x.near(0, 0), row[2]);
        }
    }

    /** "WHO HAS one's own CASE now." */
    private static void whoHas() {
        PackedCases x = Texts.with("person 0 2 1 9;".repeat(7));
        for (int person = 0; person < 7; person++) {
            CHECK.due("one's own", x.near(person, 1), person);
        }
        x.swap(0, 6);
        CHECK.due("6 has 0's", x.near(0, 1), 6);
        CHECK.due("0 has 6's", x.near(6, 1), 0);
        x.swap(6, 3);
        CHECK.due("3 has 0's", x.near(0, 1), 3);
        CHECK.due("6 has 3's", x.near(3, 1), 6);
        CHECK.due("0 has 6's still", x.near(6, 1), 0);
        CHECK.due("whose 3 has", x.person(3, 5), 0);
    }

    /** "GREATEST TRIP of one: the most WEIGHT that is in the CASE which one has now, or behind one of .. (0 to 100)." */
    private static void greatestTrip() {
        PackedCases x = one(3, "(day=99)*4");
        CHECK.due("in 0", x.load(0, 0), 0);
        CHECK.due("in 99", x.load(0, 99), 0);
        CHECK.due("in 100", x.load(0, 100), 8);
        PackedCases y = one(3, "4-day/3");
        CHECK.due("in 0", y.load(0, 0), 0);
        CHECK.due("in 1", y.load(0, 1), 8);
        CHECK.due("in 100", y.load(0, 100), 8);
        y.days(1);
        CHECK.due("now", y.load(0, 0), 8);
        CHECK.due("now, in 100", y.load(0, 100), 8);
        y.days(1);
        CHECK.due("behind it", y.load(0, 2), 6);
        y.undo();
        y.swap(0, 1);
        CHECK.due("the case which one has now", y.load(1, 0), 8);
        CHECK.due("the case which one has now", y.load(0, 0), 0);
        CHECK.due("of one to whom nobody packs", one(3, "9").load(1, 100), 0);
        CHECK.due("a full case", Texts.with("thing 20 1 9;person 60 2 1 9 by 1;person 0 9 1 0;puts 9;").load(0, 100), 60);
    }

    /** "WITHOUT: by how many more of a THING STOCK would be behind so many DAYS (0 to 100) .. (below 0: fewer)." */
    private static void without() {
        PackedCases x = one(3, "(day=99)*4");
        CHECK.due("behind 0", x.without(1, 0, 0), 0);
        CHECK.due("behind 99", x.without(1, 0, 99), 0);
        CHECK.due("behind 100", x.without(1, 0, 100), 4);
        CHECK.due("one who packs for nobody", x.without(0, 0, 100), 0);
        PackedCases y = one(2, "3");
        CHECK.due("behind 1", y.without(1, 0, 1), 3);
        CHECK.due("behind 2", y.without(1, 0, 2), 0);
        y.days(1);
        CHECK.due("now, what is out stays out", y.without(1, 0, 0), 0);
        CHECK.due("behind 1 it is back", y.without(1, 0, 1), 0);
        CHECK.due("behind 2", y.without(1, 0, 2), 3);
        // 2 would have what 0 takes, and keep it for longer
        PackedCases z = Texts.with("thing 1 1 4;person 9 9 1 9 by 1;person 0 9 8 0;person 9 9 8 0 by 3;person 0 9 8 0;"
                + "puts 4;");
        int[] due = {0, 0, -4, -4, -4, -4, -4, -4, -4, 0};
        for (int days = 0; days < due.length; days++) {
            CHECK.due("behind " + days, z.without(1, 0, days), due[days]);
        }
    }

    /** "were one told nobody's PACKER any more from now on": of all for whom one packs, and of nobody else's. */
    private static void withoutFromNowOn() {
        PackedCases x = Texts.with("thing 1 0 9;person 1 9 8 0 by 6;person 2 9 8 0 by 5;person 3 9 8 0 by 6;"
                + "person 0 9 8 0;person 0 9 8 0;person 0 9 8 0 by 6;person 0 9 8 0 by 5;puts 9;");
        CHECK.due("1 and 3 of 6", x.without(6, 0, 1), 4);
        CHECK.due("2 of 5", x.without(5, 0, 1), 2);
        CHECK.due("none of 4", x.without(4, 0, 1), 0);
        Snapshot ahead = Snapshot.of(x);
        x.without(6, 0, 100);
        CHECK.due("nothing changes", Snapshot.of(x).isLike(ahead), true);
        x.packer(0, 5);
        CHECK.due("3 of 6 by now", x.without(6, 0, 1), 3);
        CHECK.due("1 and 2 of 5 by now", x.without(5, 0, 1), 3);
    }
}
