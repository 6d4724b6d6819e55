import java.util.function.IntUnaryOperator;

/** Promises 15 to 21, 32 to 36, 38 and 39: what is behind so many days. */
public final class AheadTest {
    private static final Check CHECK = new Check();

    private AheadTest() {
    }

    public static void main(String[] args) {
        then();
        later();
        nextAndLacking();
        daysOf();
        mostAndLeast();
        without();
        fromNowOn();
        wrongPeople();
        wrongDays();
        nothingChanges();
        CHECK.end();
    }

    private static void row(String call, IntUnaryOperator ask, int... due) {
        for (int at = 0; at < due.length; at++) {
            CHECK.due(call + " " + at, ask.applyAsInt(at), due[at]);
        }
    }

    /**
     * Day 0: 0 leaves with a thing 0, 1 and 2 with nothing. 1: 1 and 2 come back. 2: 0 comes back, 2 leaves.
     * 3: 1 leaves with a thing that is as fond as 0, none; 2 comes back. 4: 0 leaves (1 is out), 1 comes back ..
     */
    private static void then() {
        PackedCases x = Texts.with(NowTest.HOUSE);
        row("0 is in", d -> x.then(0, d, 0), 1, 0, 0, 1, 1, 0, 0, 1);
        row("1 is in", d -> x.then(1, d, 0), 1, 0, 1, 1, 0, 1, 1, 0);
        row("2 is in", d -> x.then(2, d, 0), 1, 0, 1, 0, 1, 0, 1, 0);
        row("0 is fond", d -> x.then(0, d, 1), 6, 6, 6, 5, 5, 5, 5, 4);
        row("1 is fond", d -> x.then(1, d, 1), 1, 1, 0);
        row("2 is fond", d -> x.then(2, d, 1), 9, 9, 8, 8, 7);
        row("0 has", d -> x.then(0, d, 2), 0, 5, 5, 0, 0);
        row("0 weighs", d -> x.then(0, d, 3), 0, 3, 3, 0, 0);
        row("packed 0 0", d -> x.packed(0, 0, d), 0, 1, 1, 0, 0);
        row("packed 0 1: no room", d -> x.packed(0, 1, d), 0, 0, 0, 0, 0);
        row("cupboard 0", d -> x.cupboard(0, d), 2, 1, 1, 2, 2);
        row("cupboard 1", d -> x.cupboard(1, d), 1, 1, 1, 1, 1, 1, 1, 1, 1, 0);
        CHECK.none("then of 3", () -> x.then(3, 0, 0));
        CHECK.none("then's what 4", () -> x.then(0, 0, 4));
        CHECK.none("then's what -1, ahead of days", () -> x.then(0, 101, -1));
    }

    private static void later() {
        PackedCases x = Texts.with(NowTest.HOUSE);
        row("out", d -> x.later(d, 0), 0, 7, 1, 4, 2, 5);
        row("crossest", d -> x.later(d, 1), 1, 1, 1);
        row("empty cases", d -> x.later(d, 2), 0, 2, 2, 3, 4, 6);
        row("heaviest", d -> x.later(d, 3), -1, 0, 0, -1);
        CHECK.none("later's what 4", () -> x.later(0, 4));
        CHECK.none("later's what -1, ahead of days", () -> x.later(101, -1));
        PackedCases y = Texts.with("person 0 2 1 3;person 0 2 1 5 by 0;person 0 2 1 5 by 0;person 0 2 1 9 by 0;");
        CHECK.due("crossest of those who have one, the least", y.later(0, 1), 1);
        y.packer(1, -1);
        CHECK.due("crossest then", y.later(0, 1), 2);
        y.packer(2, -1);
        y.packer(3, -1);
        CHECK.due("crossest of none", y.later(0, 1), -1);
        PackedCases z = Texts.with("thing 2 0 9;thing 3 0 9;person 2 9 8 0 by 3;person 3 9 8 0 by 3;"
                + "person 3 9 8 0 by 3;person 0 9 8 0;");
        CHECK.due("heaviest now", z.later(0, 3), -1);
        z.mend(1, 0);
        CHECK.due("heaviest of like ones", z.later(1, 3), 0);
        PackedCases w = Texts.with("thing 3 0 9;person 2 9 8 0 by 3;person 3 9 8 0 by 3;person 3 9 8 0 by 3;"
                + "person 0 9 8 0;");
        CHECK.due("heaviest", w.later(1, 3), 1);
    }

    private static void nextAndLacking() {
        PackedCases x = Texts.with("thing 1 0 1;thing 1 0 0;thing 1 0 2;person 9 7 3 9 by 1;person 0 5 4 0;");
        CHECK.due("leaves", x.next(0), 1);
        CHECK.due("lacking behind a day", x.lacking(0), 1);
        CHECK.due("lacking now", x.lacking(1), 0);
        CHECK.due("never lacking", x.lacking(2), -1);
        x.days(1);
        CHECK.due("comes", x.next(0), 3);
        CHECK.due("comes", x.next(1), 4);
        CHECK.due("lacking now", x.lacking(0), 0);
        x.days(3);
        CHECK.due("leaves", x.next(0), 4);
        CHECK.due("comes", x.next(1), 1);
        CHECK.due("lacking behind day 35, the next one on which 0 leaves and 1 is in", x.lacking(0), 32);
        x.days(1);
        CHECK.due("leaves", x.next(1), 1);
        CHECK.none("next 2", () -> x.next(2));
        CHECK.none("next -1", () -> x.next(-1));
        CHECK.none("lacking 3", () -> x.lacking(3));
        CHECK.none("lacking -1", () -> x.lacking(-1));
        PackedCases y = Texts.with("thing 1 0 1;person 9 2 1 0 by 1;person 0 8 1 0;puts day=98;");
        CHECK.due("lacking behind 99", y.lacking(0), 99);
        PackedCases z = Texts.with("thing 1 0 1;person 9 9 1 0 by 1;person 0 8 1 0;puts day=99;");
        CHECK.due("lacking behind 100", z.lacking(0), 100);
        PackedCases w = Texts.with("thing 1 0 1;person 9 2 1 0 by 1;person 0 8 1 0;puts day=100;");
        CHECK.due("lacking behind 101", w.lacking(0), -1);
        w.days(1);
        CHECK.due("lacking behind 101 less 1", w.lacking(0), 100);
    }

    private static void daysOf() {
        PackedCases x = Texts.with(NowTest.HOUSE);
        row("trips of 0", d -> x.trips(0, d, 0), 0, 1, 1, 1, 1, 2, 2, 2, 2, 3);
        row("trips of 2", d -> x.trips(2, d, 0), 0, 1, 1, 2, 2, 3);
        row("0 had best", d -> x.trips(0, d, 1), 0, 1, 1, 1, 1, 1);
        CHECK.due("1 never had any", x.trips(1, 9, 1), 0);
        row("together 0 1", d -> x.together(0, 1, d + 1), 0, 0, 1, 1, 1, 1);
        row("together 0 0", d -> x.together(0, 0, d + 1), 0, 0, 1, 2);
        row("away both 0 1", d -> x.awayBoth(0, 1, d + 1), 1, 1, 1, 1, 1);
        row("away both 0 2", d -> x.awayBoth(0, 2, d + 1), 1, 1, 1, 1, 2);
        row("away both 2 2", d -> x.awayBoth(2, 2, d + 1), 1, 1, 2);
        row("alone", d -> x.alone(d + 1), 1, 1, 1, 1, 1);
        row("emptiest", d -> x.emptiest(d + 1), 1, 1, 1);
        x.days(1);
        row("emptiest behind a day: 1, 1, 1, 2 are out", d -> x.emptiest(d + 1), 1, 1, 1, 4);
        CHECK.due("alone behind a day", x.alone(4), 0);
        CHECK.none("trips of 3", () -> x.trips(3, 0, 0));
        CHECK.none("trips' what 2", () -> x.trips(0, 0, 2));
        CHECK.none("trips' what -1, ahead of days", () -> x.trips(0, 101, -1));
        PackedCases y = Texts.with("thing 1 1 9;person 9 3 1 0 by 1;person 0 9 8 0;puts 1+day;");
        y.packer(1, 0);
        CHECK.due("more on day 9, when 1 is in", y.trips(0, 12, 1), 10);
        PackedCases z = new PackedCases();
        CHECK.due("emptiest of nobody", z.emptiest(100), 1);
        CHECK.due("alone of nobody", z.alone(100), 100);
    }

    private static void mostAndLeast() {
        PackedCases x = Texts.with("thing 2 0 9;person 60 4 1 0 by 1;person 0 9 1 0;puts 1+day;");
        row("least", d -> x.least(0, d), 9, 8, 8, 8, 8, 4, 4);
        row("load", d -> x.load(0, d), 0, 2, 2, 2, 2, 10, 10);
        x.days(1);
        row("least of now", d -> x.least(0, d), 8, 8, 8);
        row("load of now", d -> x.load(0, d), 2, 2, 2);
        CHECK.none("least 1", () -> x.least(1, 0));
        CHECK.none("least -1", () -> x.least(-1, 101));
        CHECK.none("load 2", () -> x.load(2, 0));
        CHECK.none("load -1", () -> x.load(-1, 101));
    }

    private static void without() {
        PackedCases x = Texts.with("thing 1 0 9;person 9 9 8 0 by 2;person 9 9 8 0 by 2;person 0 9 8 0 by 0;puts 3;");
        row("without 2", d -> x.without(2, 0, d), 0, 6, 6);
        row("without 0, who is out when 2 leaves", d -> x.without(0, 0, d), 0, 0);
        row("without 1, who packs for nobody", d -> x.without(1, 0, d), 0, 0);
        PackedCases y = Texts.with("thing 1 5 9;person 9 2 1 5 by 1;person 9 2 1 9 by 0;puts fond/5;feels had/2;");
        row("one more, as long as 0 is out", d -> y.without(1, 0, d), 0, 1, 0);
        PackedCases z = Texts.with("thing 1 1 4;person 9 2 1 9 by 2;person 9 9 8 0 by 2;person 9 9 8 0;"
                + "person 9 9 8 5 by 4;person 0 8 1 0;puts 4;");
        CHECK.due("3 takes what 0 did not", z.without(2, 0, 1), 0);
        PackedCases w = Texts.with("thing 1 1 4;person 9 2 1 9 by 1;person 9 9 8 0;person 9 9 8 0 by 3;person 0 9 1 0;"
                + "puts 4;");
        row("below 0: 2 keeps for long what 0 brought back", d -> w.without(1, 0, d), 0, 0, -4);
        CHECK.none("without 4", () -> w.without(4, 0, 0));
        CHECK.none("without -1", () -> w.without(-1, 0, 101));
        CHECK.none("without thing 1", () -> w.without(0, 1, 0));
        CHECK.none("without thing -1", () -> w.without(0, -1, 101));
    }

    private static void fromNowOn() {
        PackedCases x = Texts.with(NowTest.HOUSE);
        PackedCases y = Texts.with(NowTest.HOUSE);
        y.days(3);
        for (int d = 0; d <= 97; d++) {
            CHECK.due("fond behind " + d, y.then(0, d, 1), x.then(0, d + 3, 1));
            CHECK.due("out behind " + d, y.later(d, 0), x.later(d + 3, 0));
            CHECK.due("empty cases behind " + d, y.later(d, 2), x.later(d + 3, 2) - 3);
        }
    }

    private static void wrongPeople() {
        PackedCases x = Texts.with(NowTest.HOUSE);
        for (int wrong : new int[] {-1, 3, Integer.MAX_VALUE, Integer.MIN_VALUE}) {
            CHECK.none("together " + wrong, () -> x.together(wrong, 0, 0));
            CHECK.none("together with " + wrong, () -> x.together(0, wrong, 0));
            CHECK.none("away both " + wrong, () -> x.awayBoth(wrong, 0, 0));
            CHECK.none("away both with " + wrong, () -> x.awayBoth(0, wrong, 0));
            CHECK.none("packed of " + wrong, () -> x.packed(wrong, 0, -1));
        }
        for (int wrong : new int[] {-1, 2, Integer.MAX_VALUE, Integer.MIN_VALUE}) {
            CHECK.none("packed " + wrong, () -> x.packed(0, wrong, -1));
            CHECK.none("cupboard " + wrong, () -> x.cupboard(wrong, -1));
        }
    }

    private static void wrongDays() {
        PackedCases x = Texts.with(NowTest.HOUSE);
        for (int wrong : new int[] {-1, 101, Integer.MAX_VALUE, Integer.MIN_VALUE}) {
            CHECK.illegal("then " + wrong, () -> x.then(0, wrong, 0));
            CHECK.illegal("packed " + wrong, () -> x.packed(0, 0, wrong));
            CHECK.illegal("cupboard " + wrong, () -> x.cupboard(0, wrong));
            CHECK.illegal("later " + wrong, () -> x.later(wrong, 0));
            CHECK.illegal("trips " + wrong, () -> x.trips(0, wrong, 0));
            CHECK.illegal("had best " + wrong, () -> x.trips(0, wrong, 1));
            CHECK.illegal("least " + wrong, () -> x.least(0, wrong));
            CHECK.illegal("load " + wrong, () -> x.load(0, wrong));
            CHECK.illegal("without " + wrong, () -> x.without(0, 0, wrong));
        }
        for (int wrong : new int[] {0, -1, 101, Integer.MAX_VALUE, Integer.MIN_VALUE}) {
            CHECK.illegal("emptiest " + wrong, () -> x.emptiest(wrong));
            CHECK.illegal("together " + wrong, () -> x.together(0, 1, wrong));
            CHECK.illegal("away both " + wrong, () -> x.awayBoth(0, 1, wrong));
            CHECK.illegal("alone " + wrong, () -> x.alone(wrong));
        }
        // by twelves: 0 is out 6 of them, 1 is out 4, 2 is out 6
        CHECK.due("then 100", x.then(0, 100, 0), 1);
        CHECK.due("trips 100", x.trips(0, 100, 0), 25);
        CHECK.due("trips 100 of 1", x.trips(1, 100, 0), 34);
        CHECK.due("together 100", x.together(0, 0, 100), 50);
        CHECK.due("away both 100", x.awayBoth(2, 2, 100), 50);
        CHECK.due("packed 100", x.packed(0, 0, 100), 0);
        CHECK.due("cupboard 100", x.cupboard(0, 100) + x.packed(1, 0, 100), 2);
        CHECK.due("later 100", x.later(100, 0), 2);
        CHECK.due("emptiest 100", x.emptiest(100), 1);
        CHECK.due("alone 100", x.alone(100), 9);
        CHECK.due("load 100 of 2, whom nobody packs for", x.load(2, 100), 0);
        CHECK.due("without 100 of 2, who packs for nobody", x.without(2, 0, 100), 0);
        CHECK.due("least 100", x.least(1, 100), 0);
    }

    private static void nothingChanges() {
        PackedCases x = Texts.with(NowTest.HOUSE);
        x.then(0, 50, 1);
        x.later(50, 0);
        x.without(1, 0, 50);
        x.next(0);
        x.lacking(0);
        CHECK.due("day", x.count(2), 0);
        CHECK.due("in", x.count(3), 7);
        CHECK.due("fond", x.person(0, 3), 6);
        CHECK.due("packer", x.person(0, 4), 1);
        CHECK.due("acts", x.count(9), 0);
    }
}
