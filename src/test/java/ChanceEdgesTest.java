/** TRAINS, a GAME, YEARS, STATUS (promises 29 to 31): each sentence with a bound, at it and on both sides of it. */
public final class ChanceEdgesTest {
    private static final Check CHECK = new Check();
    private static final int[] SEEDS = {0, 1, -1, 5, 4242, 65535, 65536, Integer.MAX_VALUE, Integer.MIN_VALUE};

    private ChanceEdgesTest() {
    }

    public static void main(String[] args) {
        trainsByEveryWay();
        allTrainsAndNone();
        trainsOutOfBounds();
        packsForNobody();
        bothAreOne();
        aThirdCutDown();
        fourIfCross();
        behindFiveDays();
        noneRests();
        allRest();
        casesWhichThoseHave();
        eachForTheOther();
        nobodyIsCrosserByAGame();
        noYears();
        howOften();
        fondAndMixed();
        drawsOfNothing();
        boughtBelow99();
        nothingChangesByYears();
        status();
        CHECK.end();
    }

    /** Each of so many days with a train or without: 2 to the power of these days ways. */
    private static int waysIn(int every, int away, int day, int out, int days, int tenths) {
        int all = 0;
        for (int way = 0; way < 1 << days; way++) {
            int left = out;
            int weight = 1;
            for (int at = 0; at < days; at++) {
                boolean runs = (way >> at & 1) == 1;
                weight *= runs ? 10 - tenths : tenths;
                if (runs && left > 0) {
                    left--;
                } else if (runs && (day + at) % every == 0) {
                    left = away;
                }
            }
            all += left == 0 ? weight : 0;
        }
        return all;
    }

    /** "on each of so many DAYS (1 to 5) no train runs with so many tenths (0 to 10): nobody leaves or comes back". */
    private static void trainsByEveryWay() {
        for (int every = 2; every <= 9; every++) {
            int away = every % 2 == 0 ? every - 1 : (every + 1) / 2;
            PackedCases x = Texts.with("person 0 " + every + " " + away + " 0;");
            for (int day = 0; day < every; day++) {
                int tenths = (day + every) % 11;
                for (int days = 1; days <= 5; days++) {
                    for (int one : new int[] {0, 1, tenths, 9, 10}) {
                        CHECK.due("every " + every + ", day " + day + ", " + days + " days, " + one + " tenths",
                                x.trains(0, days, one), waysIn(every, away, day, x.person(0, 6), days, one));
                    }
                }
                x.days(1);
            }
        }
    }

    /** With 0 tenths it is as THEN, with 10 as now: "as so many of 10 to the power of these DAYS". */
    private static void allTrainsAndNone() {
        PackedCases x = Texts.with("person 0 4 2 6 by 1;person 0 3 1 1 by 0;person 0 2 1 9;");
        for (int day = 0; day < 6; day++) {
            for (int person = 0; person < 3; person++) {
                int power = 10;
                for (int days = 1; days <= 5; days++) {
                    CHECK.due("all run", x.trains(person, days, 0), x.then(person, days, 0) * power);
                    CHECK.due("none runs", x.trains(person, days, 10), x.then(person, 0, 0) * power);
                    power *= 10;
                }
            }
            x.days(1);
        }
    }

    private static void trainsOutOfBounds() {
        PackedCases x = Texts.with("person 0 4 2 6;");
        CHECK.illegal("0 days", () -> x.trains(0, 0, 5));
        CHECK.due("1 day", x.trains(0, 1, 5), 5);
        CHECK.due("5 days", x.trains(0, 5, 10), 100000);
        CHECK.illegal("6 days", () -> x.trains(0, 6, 5));
        CHECK.illegal("-1 tenths", () -> x.trains(0, 1, -1));
        CHECK.due("0 tenths", x.trains(0, 1, 0), 0);
        CHECK.due("1 tenth", x.trains(0, 1, 1), 1);
        CHECK.due("9 tenths", x.trains(0, 1, 9), 9);
        CHECK.due("10 tenths", x.trains(0, 1, 10), 10);
        CHECK.illegal("11 tenths", () -> x.trains(0, 1, 11));
        CHECK.none("nobody, ahead of days and tenths", () -> x.trains(1, 0, 11));
        CHECK.none("nobody, ahead of days and tenths", () -> x.trains(-1, 6, -1));
    }

    /** "NONE for both, if one packs for nobody." */
    private static void packsForNobody() {
        PackedCases x = Texts.with("person 0 2 1 5 by 1;person 0 2 1 5;person 0 2 1 5;");
        for (int what = 0; what <= 1; what++) {
            CHECK.due("2 for nobody", x.game(1, 2, what), -1);
            CHECK.due("0 for nobody", x.game(0, 1, what), -1);
            CHECK.due("both for nobody", x.game(0, 2, what), -1);
        }
        x.packer(2, 0);
        CHECK.due("0 for 2", x.game(0, 1, 0), 1);
        CHECK.due("0 for 2", x.game(0, 1, 1), 11);
        CHECK.due("2 for nobody", x.game(2, 1, 0), -1);
        x.packer(0, -1);
        CHECK.due("1 for nobody any more", x.game(0, 1, 0), -1);
    }

    /** "IllegalArgumentException (behind that): both are one." */
    private static void bothAreOne() {
        PackedCases x = Texts.with("person 0 2 1 5 by 1;person 0 2 1 5;");
        CHECK.illegal("who packs", () -> x.game(1, 1, 0));
        CHECK.illegal("who packs for nobody", () -> x.game(0, 0, 1));
        CHECK.none("another what goes ahead", () -> x.game(1, 1, 2));
        CHECK.none("another what goes ahead", () -> x.game(1, 1, -1));
        CHECK.none("no such person goes ahead", () -> x.game(2, 2, 0));
        CHECK.none("no such person goes ahead", () -> x.game(-1, -1, 0));
    }

    /** 0 takes the first thing as often as told, if 2 isn't cross; 3 packs for 1, who takes nothing. */
    private static PackedCases gains(String things) {
        return Texts.with(things + "person 60 9 8 9 by 2;person 0 9 8 0 by 3;person 0 9 8 0;person 0 9 8 0;puts fond;");
    }

    /** "each gains a third (cut down) of USE of all that is behind 5 DAYS in the CASES". */
    private static void aThirdCutDown() {
        // 2 gains a third, or 4, if cross
        String[] things = {"thing 1 2 4;", "thing 1 9 1;thing 1 2 1;", "thing 1 3 4;", "thing 1 6 2;thing 1 1 1;",
            "thing 1 7 2;", "thing 1 5 3;", "thing 1 8 2;"};
        int[] use = {8, 11, 12, 13, 14, 15, 16};
        for (int at = 0; at < use.length; at++) {
            PackedCases x = gains(things[at]);
            CHECK.due("has", x.then(0, 5, 2), use[at]);
            int third = use[at] / 3;
            CHECK.due(use[at] + ": how many", x.game(2, 3, 0), third == 4 ? 2 : 1);
            CHECK.due(use[at] + ": the first", x.game(2, 3, 1), third >= 4 ? 1 : 11);
            CHECK.due(use[at] + ": the first, told the other way", x.game(3, 2, 1), third >= 4 ? 10 : 11);
        }
    }

    /** "and 4, if one is cross": one who gains nothing otherwise is cross. */
    private static void fourIfCross() {
        PackedCases x = gains("thing 1 0 9;");
        CHECK.due("both are cross", x.game(2, 3, 0), 1);
        CHECK.due("both are cross", x.game(2, 3, 1), 11);
    }

    /** "behind 5 DAYS": one who leaves on day 0 for 4 days is back, for 5 days is not. */
    private static void behindFiveDays() {
        for (int away = 1; away <= 8; away++) {
            PackedCases x = Texts.with("thing 1 5 3;person 60 9 " + away + " 9 by 2;person 0 9 8 0 by 3;"
                    + "person 0 9 8 0;person 0 9 8 0;puts fond;");
            CHECK.due("away " + away, x.game(2, 3, 1), away >= 5 ? 1 : 11);
        }
    }

    /**
     * "NONE: none". 2 packs for 0, who takes 3 or none on day 0 and is back on day 2, and on day 4 for 3, who is liked
     * by then and takes what is left; 3 packs for 1, who takes what 0 left on day 0. Gains, by 2's and 3's choices:
     * 00: 15 / 3 and 5 / 3; 01: 20 / 3 and 4; 10: 4 and 20 / 3; 11: 20 / 3 + 4 and 4.
     */
    private static void noneRests() {
        PackedCases x = Texts.with("thing 1 5 4;person 7 6 2 3 by 2;person 17 9 7 8 by 3;person 19 8 4 3;"
                + "person 14 4 2 7 by 2;puts fond;feels 9-had;");
        CHECK.due("how many", x.game(2, 3, 0), 0);
        CHECK.due("the first", x.game(2, 3, 1), -1);
        CHECK.due("how many, told the other way", x.game(3, 2, 0), 0);
        CHECK.due("the first, told the other way", x.game(3, 2, 1), -1);
    }

    /** "A couple RESTS, if neither gains more by the other choice": as much is not more. */
    private static void allRest() {
        PackedCases x = Texts.with("thing 1 4 9;person 3 9 8 9 by 2;person 3 9 8 9 by 3;person 0 9 8 0;person 0 9 8 0;"
                + "puts fond;");
        CHECK.due("12 / 3 or 4, of both", x.game(2, 3, 0), 4);
        CHECK.due("the first", x.game(2, 3, 1), 0);
        x.packer(1, -1);
        x.packer(2, 3);
        CHECK.due("of one alone", x.game(2, 3, 0), 2);
        CHECK.due("the first of them", x.game(2, 3, 1), 1);
        CHECK.due("the first of them, told the other way", x.game(3, 2, 1), 10);
    }

    /** "in the CASES which those have for whom one packs, together". */
    private static void casesWhichThoseHave() {
        PackedCases x = Texts.with("thing 1 5 3;person 60 9 8 9 by 2;person 60 9 8 0 by 3;person 0 9 8 0;person 0 9 8 0;"
                + "puts fond;");
        CHECK.due("15 / 3 in 0's case", x.game(2, 3, 1), 1);
        x.swap(0, 1);
        CHECK.due("the other one's case holds as much", x.game(2, 3, 1), 1);
        x.swap(0, 3);
        CHECK.due("3's case holds nothing", x.game(2, 3, 1), 11);
        // 7 and 8 are 15; a third of each alone would be 2 and 2
        PackedCases y = Texts.with("thing 1 7 1;thing 1 8 1;person 1 9 8 9 by 3;person 1 9 8 9 by 3;"
                + "person 0 9 8 0 by 4;person 0 9 8 0;person 0 9 8 0;puts fond;");
        CHECK.due("together, then cut down", y.game(3, 4, 1), 1);
        y.packer(1, 4);
        CHECK.due("each alone", y.game(3, 4, 1), 11);
    }

    /** "two who both are PACKERS": of one another, too; 0 leaves ahead of 1, for whom nobody is in then. */
    private static void eachForTheOther() {
        PackedCases x = Texts.with("thing 1 5 3;person 60 9 8 9 by 1;person 60 9 8 9 by 0;puts fond;");
        CHECK.due("1 gains 15 / 3 or 4, 0 none or 4: how many", x.game(0, 1, 0), 1);
        CHECK.due("0 is cross", x.game(0, 1, 1), 10);
        CHECK.due("0 is cross, told the other way", x.game(1, 0, 1), 1);
        x.mend(0, 2);
        CHECK.due("1 gains 10 / 3 or 4", x.game(0, 1, 1), 11);
        x.mend(0, 0);
        CHECK.due("whose FOND is 0 by now", x.game(0, 1, 1), 11);
    }

    private static void nobodyIsCrosserByAGame() {
        PackedCases x = gains("thing 1 5 3;");
        Snapshot ahead = Snapshot.of(x);
        x.game(2, 3, 0);
        x.game(3, 2, 1);
        CHECK.due("nothing changes", Snapshot.of(x).isLike(ahead), true);
    }

    /** "n DAYS (0 to 100) from now on": none of them leave all as it is. */
    private static void noYears() {
        PackedCases x = Texts.with("person 0 2 1 6;person 0 2 1 1;person 0 2 1 9;");
        x.swap(0, 2);
        for (int seed : SEEDS) {
            CHECK.due("how often", x.years(seed, 0, 0), 0);
            CHECK.due("fond", x.years(seed, 0, 1), 16);
            CHECK.due("mixed", x.years(seed, 0, 2), 5);
        }
        CHECK.illegal("-1", () -> x.years(0, -1, 0));
        CHECK.illegal("101", () -> x.years(0, 101, 2));
        CHECK.none("what 3, ahead of n", () -> x.years(0, 101, 3));
        CHECK.none("what -1, ahead of n", () -> x.years(0, -1, -1));
    }

    /** "how often one leaves in these DAYS, all together": lots hold nobody back. */
    private static void howOften() {
        PackedCases x = Texts.with("thing 1 1 1;person 9 2 1 6 by 1;person 9 9 8 1 by 0;person 9 7 3 9 by 0;");
        for (int n = 0; n <= 100; n++) {
            CHECK.due("in " + n, x.years(n * 77, n, 0), (n + 1) / 2 + (n + 8) / 9 + (n + 6) / 7);
        }
        CHECK.due("nobody", new PackedCases().years(3, 100, 0), 0);
    }

    private static int seed;

    /** "A seed becomes itself times 1103515245 and 12345 (an int that wraps); a DRAW of n is its bits 16 to 30 MOD n". */
    private static int draw(int of) {
        long wide = Math.floorMod(seed * 1103515245L + 12345, 1L << 32);
        seed = (int) wide;
        return (int) (wide / 65536 % 32768 % of);
    }

    /** Lots alone change FOND and CASES of people for whom nobody feels anything else. */
    private static void fondAndMixed() {
        for (int people = 1; people <= 7; people++) {
            PackedCases x = Texts.with("thing 1 1 0;thing 1 1 0;" + "person 0 3 1 5;".repeat(people) + "feels fond;");
            for (int first : SEEDS) {
                for (int n : new int[] {1, 2, 99, 100}) {
                    int[] fond = new int[people];
                    int[] cases = new int[people];
                    for (int person = 0; person < people; person++) {
                        fond[person] = 5;
                        cases[person] = person;
                    }
                    seed = first;
                    for (int day = 0; day < n; day++) {
                        lot(fond, cases, 2);
                    }
                    checkYears(x, first, n, fond, cases);
                }
            }
        }
    }

    private static void lot(int[] fond, int[] cases, int things) {
        int lot = draw(5);
        if (lot == 0) {
            int person = draw(cases.length);
            int other = draw(cases.length);
            int former = cases[person];
            cases[person] = cases[other];
            cases[other] = former;
        } else if (lot == 1) {
            int person = draw(fond.length);
            fond[person] = draw(10);
        } else if (lot == 2 && things > 0) {
            draw(things);
        }
    }

    private static void checkYears(PackedCases x, int first, int n, int[] fond, int[] cases) {
        int all = 0;
        int mixed = 0;
        for (int person = 0; person < fond.length; person++) {
            all += fond[person];
            mixed |= cases[person] == person ? 0 : 1 << person;
        }
        CHECK.due("fond by " + first + " in " + n, x.years(first, n, 1), all);
        CHECK.due("mixed by " + first + " in " + n, x.years(first, n, 2), mixed);
    }

    /** "(Without PEOPLE nothing is drawn behind 0, 1, without THINGS nothing behind 2.)" */
    private static void drawsOfNothing() {
        PackedCases x = Texts.with("person 0 3 1 5;person 0 3 1 5;person 0 3 1 5;feels fond;");
        for (int first : SEEDS) {
            int[] fond = {5, 5, 5};
            int[] cases = {0, 1, 2};
            seed = first;
            for (int day = 0; day < 100; day++) {
                lot(fond, cases, 0);
            }
            checkYears(x, first, 100, fond, cases);
        }
        PackedCases y = Texts.with("thing 1 1 1;");
        for (int what = 0; what <= 2; what++) {
            CHECK.due("without people", y.years(9, 100, what), 0);
            CHECK.due("without anything", new PackedCases().years(9, 100, what), 0);
        }
        CHECK.due("nothing is bought", y.thing(0, 2), 1);
    }

    /** Whether the lots of so many days by a seed are none but 2, 3 and 4, and one of them is 2. */
    private static boolean onlyBuys(int first, int days) {
        boolean buys = false;
        seed = first;
        for (int day = 0; day < days; day++) {
            int lot = draw(5);
            if (lot < 2) {
                return false;
            }
            if (lot == 2) {
                draw(1);
                buys = true;
            }
        }
        return buys;
    }

    /**
     * "one more of a DRAW of THINGS is BOUGHT, if STOCK is less than 99". From day 2 on, 0 leaves on day 4 with nine,
     * if there are so many by then, and is liked for it when it comes back on day 5.
     */
    private static void boughtBelow99() {
        int tried = 0;
        for (int stock : new int[] {97, 98, 99, 100, 108}) {
            int due = stock < 99 ? 9 : 0;
            PackedCases x = Texts.with("thing 1 9 9;person 60 4 1 0 by 1;person 0 9 1 0;"
                    + "puts (day=0)*9+(day=4)*(" + stock + "<stock)*9;feels had;");
            for (int bought = 0; bought < 9; bought++) {
                x.buy(0, 9);
            }
            // 90 now; nine are out behind day 0 and come back on day 1
            if (stock > 99) {
                x.buy(0, 9);
                x.days(1);
                x.buy(0, stock - 99);
                x.days(1);
            } else {
                x.buy(0, stock - 90);
                x.days(2);
            }
            CHECK.due("stock", x.thing(0, 2), stock);
            for (int first = 0; first < 300; first++) {
                if (onlyBuys(first, 4) && onlyBuys(first, 3)) {
                    tried++;
                    CHECK.due(stock + " by " + first, x.years(first, 4, 1), due);
                }
            }
        }
        CHECK.due("some were tried", tried > 50, true);
    }

    private static void nothingChangesByYears() {
        PackedCases x = Texts.with("thing 1 9 9;person 60 4 1 0 by 1;person 0 9 1 0 by 0;");
        x.days(3);
        Snapshot ahead = Snapshot.of(x);
        for (int first : SEEDS) {
            x.years(first, 100, 1);
        }
        CHECK.due("nothing changes", Snapshot.of(x).isLike(ahead), true);
    }

    /** "STATUS: how many calls were refused: 0 of TEXTS with a FAULT, 1 of ACTS, 2 of what is SEEN." */
    private static void status() {
        PackedCases x = Texts.with("thing 1 9 9;person 60 4 1 0 by 1;person 0 9 1 0 by 0;");
        Texts.house(x, "?");
        status(x, 1, 0, 0);
        x.days(0);
        status(x, 1, 1, 0);
        x.swap(0, 0);
        status(x, 1, 2, 0);
        x.buy(0, 0);
        status(x, 1, 3, 0);
        x.packer(0, 0);
        status(x, 1, 4, 0);
        x.packer(0, 1);
        status(x, 1, 5, 0);
        x.mend(0, 10);
        status(x, 1, 6, 0);
        x.see(0, 0, 31, 0);
        status(x, 1, 6, 1);
        x.see(0, 0, 0, 10);
        status(x, 1, 6, 2);
        // what answers NONE, false or throws, but isn't refused
        x.undo();
        x.restore();
        x.near(0, 0);
        x.balance(99);
        x.look(0);
        CHECK.none("swap 2 2", () -> x.swap(2, 2));
        CHECK.none("buy 1 0", () -> x.buy(1, 0));
        CHECK.none("see 0 1", () -> x.see(0, 1, 31, 0));
        CHECK.illegal("house 1", () -> x.house(1));
        for (int n = 0; n < 36; n++) {
            x.feed(0, 0, 0, 0, 0);
        }
        status(x, 1, 6, 2);
        x.house(0);
        status(x, 1, 6, 2);
        x.image();
        x.days(0);
        x.restore();
        status(x, 1, 7, 2);
    }

    private static void status(PackedCases x, int texts, int acts, int seen) {
        CHECK.due("texts", x.count(12), texts);
        CHECK.due("acts", x.count(13), acts);
        CHECK.due("seen", x.count(14), seen);
    }
}
