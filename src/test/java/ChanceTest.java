import java.math.BigInteger;

/** Promises 29 to 31: trains, game, years. */
public final class ChanceTest {
    private static final Check CHECK = new Check();

    private ChanceTest() {
    }

    public static void main(String[] args) {
        trains();
        trainsOut();
        game();
        gameOfLikeGains();
        years();
        firstDays();
        emptyHouses();
        bought();
        CHECK.end();
    }

    private static void trains() {
        PackedCases x = Texts.with(NowTest.HOUSE);
        CHECK.due("a day, 5 tenths", x.trains(0, 1, 5), 5);
        CHECK.due("a day, 3 tenths", x.trains(0, 1, 3), 3);
        CHECK.due("a day, always", x.trains(0, 1, 0), 0);
        CHECK.due("a day, never", x.trains(0, 1, 10), 10);
        CHECK.due("five days, never", x.trains(2, 5, 10), 100000);
        CHECK.due("five days, always: 2 leaves on day 4", x.trains(2, 5, 0), 0);
        CHECK.due("four days, always: 2 comes back on day 3", x.trains(2, 4, 0), 10000);
        // ttn, tnt (it comes back on a day on which it would leave), ntn, nnn
        CHECK.due("three days, 3 tenths", x.trains(2, 3, 3), 147 + 147 + 63 + 27);
        CHECK.none("trains 3", () -> x.trains(3, 1, 1));
        CHECK.none("trains -1", () -> x.trains(-1, 6, 11));
        for (int wrong : new int[] {0, -1, 6, Integer.MAX_VALUE, Integer.MIN_VALUE}) {
            CHECK.illegal("days " + wrong, () -> x.trains(0, wrong, 1));
        }
        for (int wrong : new int[] {-1, 11, Integer.MAX_VALUE, Integer.MIN_VALUE}) {
            CHECK.illegal("tenths " + wrong, () -> x.trains(0, 1, wrong));
        }
    }

    private static void trainsOut() {
        PackedCases x = Texts.with("person 0 9 8 0;person 0 9 2 0;");
        x.days(1);
        CHECK.due("eight days out", x.trains(0, 5, 5), 0);
        // two trains of three days are needed: 3 * 6 * 6 * 4 + 6 * 6 * 6
        CHECK.due("two days out", x.trains(1, 3, 4), 648);
        x.days(7);
        CHECK.due("a day out", x.trains(0, 1, 4), 6);
        // day 8 with a train: in; day 9 with a train: out, if in
        CHECK.due("a day out, then away again", x.trains(0, 2, 4), 48);
    }

    private static void game() {
        String house = "thing 1 9 9;person 9 9 8 9 by 1;person 9 9 8 9 by 0;person 0 2 1 5;puts fond;";
        PackedCases x = Texts.with(house);
        CHECK.due("0 packs for 1, too late; 1 packs for 0", x.game(0, 1, 0), 1);
        CHECK.due("0 is cross, 1 is not", x.game(0, 1, 1), 10);
        CHECK.due("told the other way", x.game(1, 0, 1), 1);
        CHECK.due("2 packs for nobody", x.game(0, 2, 0), -1);
        CHECK.due("2 packs for nobody", x.game(2, 1, 1), -1);
        CHECK.illegal("both are one", () -> x.game(0, 0, 0));
        CHECK.illegal("both are one, who packs for nobody", () -> x.game(2, 2, 1));
        CHECK.none("what 2, ahead of both are one", () -> x.game(0, 0, 2));
        CHECK.none("what -1", () -> x.game(0, 1, -1));
        CHECK.none("game 3", () -> x.game(3, 0, 0));
        CHECK.none("game with 3", () -> x.game(0, 3, 0));
        CHECK.none("game -1", () -> x.game(-1, 0, 0));
        CHECK.none("game with -1", () -> x.game(0, -1, 0));
        CHECK.due("nobody is crosser by it", x.person(0, 3), 9);
        x.swap(0, 2);
        CHECK.due("the case that one has holds nothing", x.game(0, 1, 1), 11);
    }

    /** 1 packs for 0, who takes as much use as told, if fond; 3 packs for 2, who takes nothing ever. */
    private static PackedCases oneTakes(int use, int many) {
        return Texts.with("thing 1 " + use + " " + many + ";person 9 9 8 9 by 1;person 0 9 8 0;person 0 9 8 0 by 3;"
                + "person 0 9 8 0;puts fond;");
    }

    private static void gameOfLikeGains() {
        CHECK.due("11 / 3 is less than 4", oneTakes(1, 9).game(1, 3, 1), 11);
        CHECK.due("12 / 3 is 4: both ways rest", oneTakes(4, 3).game(1, 3, 0), 2);
        CHECK.due("the first of them", oneTakes(4, 3).game(1, 3, 1), 1);
        CHECK.due("the first of them, the other way", oneTakes(4, 3).game(3, 1, 1), 10);
        CHECK.due("14 / 3 is 4, too", oneTakes(7, 2).game(1, 3, 0), 2);
        CHECK.due("15 / 3 is more", oneTakes(5, 3).game(1, 3, 0), 1);
        CHECK.due("15 / 3 is more", oneTakes(5, 3).game(1, 3, 1), 1);
        PackedCases y = Texts.with("thing 1 9 9;person 4 9 8 9 by 1;person 0 9 8 0;person 4 9 8 9 by 3;person 0 9 8 0;"
                + "puts fond;");
        CHECK.due("neither is cross", y.game(1, 3, 0), 1);
        CHECK.due("neither is cross", y.game(1, 3, 1), 0);
        // 0 takes all four ahead of 1, unless 2 is cross: what 3 gains hangs on it
        PackedCases z = Texts.with("thing 1 9 4;person 9 9 8 9 by 2;person 9 9 8 9 by 3;person 0 9 8 0;person 0 9 8 0;"
                + "puts fond;");
        CHECK.due("3 is cross, as 2 is not", z.game(2, 3, 0), 1);
        CHECK.due("3 is cross, as 2 is not", z.game(2, 3, 1), 1);
        CHECK.due("3 is cross, told the other way", z.game(3, 2, 0), 1);
        CHECK.due("3 is cross, told the other way", z.game(3, 2, 1), 10);
        // together, then cut down: 7 and 8 are 15
        PackedCases x = Texts.with("thing 1 8 1;thing 1 7 1;person 1 9 8 9 by 2;person 1 9 8 9 by 2;person 0 9 8 0;"
                + "person 0 9 8 0 by 4;person 0 9 8 0;puts fond;");
        CHECK.due("of all cases together", x.game(2, 4, 1), 1);
        // back on day 4: nothing is in the case behind 5 days; back on day 5: it is
        CHECK.due("back too early", Texts.with("thing 1 9 9;person 9 9 4 9 by 1;person 0 9 8 0;person 0 9 8 0 by 3;"
                + "person 0 9 8 0;puts fond;").game(1, 3, 1), 11);
        CHECK.due("back behind it", Texts.with("thing 1 9 9;person 9 9 5 9 by 1;person 0 9 8 0;person 0 9 8 0 by 3;"
                + "person 0 9 8 0;puts fond;").game(1, 3, 1), 1);
    }

    private static void years() {
        PackedCases x = Texts.with(NowTest.HOUSE);
        CHECK.due("no days: how often", x.years(5, 0, 0), 0);
        CHECK.due("no days: fond", x.years(5, 0, 1), 16);
        CHECK.due("no days: mixed", x.years(5, 0, 2), 0);
        x.swap(1, 2);
        CHECK.due("mixed as it is", x.years(5, 0, 2), 6);
        x.undo();
        CHECK.due("a hundred days: lots don't hold anybody back", x.years(77, 100, 0), 25 + 34 + 50);
        CHECK.none("what 3", () -> x.years(5, 0, 3));
        CHECK.none("what -1, ahead of n", () -> x.years(5, 101, -1));
        for (int wrong : new int[] {-1, 101, Integer.MAX_VALUE, Integer.MIN_VALUE}) {
            CHECK.illegal("n " + wrong, () -> x.years(5, wrong, 0));
        }
        CHECK.due("nothing changes", x.count(2) + x.count(4) + x.count(9), 0);
    }

    private static BigInteger seed;

    private static int draw(int of) {
        BigInteger wide = seed.multiply(BigInteger.valueOf(1103515245)).add(BigInteger.valueOf(12345));
        seed = BigInteger.valueOf(wide.intValue());
        return seed.shiftRight(16).and(BigInteger.valueOf(32767)).intValue() % of;
    }

    /** On a first day all leave and nobody comes back: only lots change fond and cases. */
    private static void firstDays() {
        PackedCases x = Texts.with(NowTest.HOUSE);
        int[] fond = {6, 1, 9};
        for (int first = -60; first < 60; first++) {
            seed = BigInteger.valueOf(first * 7919);
            int lot = draw(5);
            int all = 16;
            int mixed = 0;
            if (lot == 0) {
                int person = draw(3);
                int other = draw(3);
                mixed = person == other ? 0 : 1 << person | 1 << other;
            } else if (lot == 1) {
                int person = draw(3);
                all += draw(10) - fond[person];
            }
            CHECK.due("a day by " + first + ": how often", x.years(first * 7919, 1, 0), 3);
            CHECK.due("a day by " + first + ": fond", x.years(first * 7919, 1, 1), all);
            CHECK.due("a day by " + first + ": mixed", x.years(first * 7919, 1, 2), mixed);
        }
    }

    private static void emptyHouses() {
        PackedCases x = new PackedCases();
        for (int what = 0; what < 3; what++) {
            CHECK.due("nobody, nothing", x.years(9, 100, what), 0);
        }
        PackedCases y = Texts.with("person 0 2 1 5;person 0 2 1 5;feels fond;");
        int all = 10;
        int[] fond = {5, 5};
        int[] cases = {0, 1};
        seed = BigInteger.valueOf(4242);
        for (int day = 0; day < 100; day++) {
            int lot = draw(5);
            if (lot == 0 && draw(2) != draw(2)) {
                cases = new int[] {cases[1], cases[0]};
            } else if (lot == 1) {
                int person = draw(2);
                int now = draw(10);
                all += now - fond[person];
                fond[person] = now;
            }
        }
        CHECK.due("without things nothing is drawn behind 2: fond", y.years(4242, 100, 1), all);
        CHECK.due("without things nothing is drawn behind 2: mixed", y.years(4242, 100, 2), cases[0] == 0 ? 0 : 3);
    }

    /** 0 takes what puts gives on day 0 and is liked by it on day 1; 1 stays out, as liked as at first. */
    private static void bought() {
        PackedCases x = Texts.with("thing 1 1 0;person 9 2 1 5 by 1;person 0 9 8 5;puts 9;feels had;");
        PackedCases y = Texts.with("thing 1 9 8;person 9 2 1 5 by 1;person 0 9 8 5;puts stock/99;feels had;");
        PackedCases z = Texts.with("thing 1 9 9;person 9 2 1 5 by 1;person 0 9 8 5;puts stock/100;feels had;");
        for (int n = 0; n < 10; n++) {
            y.buy(0, 9);
            z.buy(0, 9);
        }
        for (int first = 0; first < 100; first++) {
            seed = BigInteger.valueOf(first);
            int lot = draw(5);
            if (lot == 2) {
                draw(1);
            }
            if (lot >= 2 && draw(5) >= 2) {
                CHECK.due("one is bought by " + first, x.years(first, 2, 1), lot == 2 ? 6 : 5);
                CHECK.due("the 99th is bought by " + first, y.years(first, 2, 1), lot == 2 ? 14 : 5);
                CHECK.due("none above 99 is bought by " + first, z.years(first, 2, 1), 5);
            }
        }
        CHECK.due("the 99th would be taken", y.thing(0, 2), 98);
        CHECK.due("the 100th would be taken", z.thing(0, 2), 99);
    }
}
