/** Promises 25 to 28: see, forget, fonder, look. */
public final class SeenTest {
    private static final Check CHECK = new Check();
    /** 0 leaves on days 0 and 9, for 8 days, while 1 is in; takes a thing 0, if fond is 5 or more. */
    private static final String HOUSE = "thing 1 5 9;thing 1 0 9;person 60 9 8 %d by 1;person 0 9 1 0;";

    private SeenTest() {
    }

    public static void main(String[] args) {
        see();
        fonder();
        fromNowOn();
        look();
        CHECK.end();
    }

    private static void see() {
        PackedCases x = Texts.with(NowTest.HOUSE);
        CHECK.none("see 3", () -> x.see(3, 0, 0, 0));
        CHECK.none("see -1", () -> x.see(-1, 0, 99, 99));
        CHECK.none("see thing 2", () -> x.see(0, 2, 0, 0));
        CHECK.none("see thing -1", () -> x.see(0, -1, 99, 99));
        CHECK.due("nothing refused", x.count(14), 0);
        CHECK.due("days -1", x.see(0, 0, -1, 0), -1);
        CHECK.due("days 31", x.see(0, 0, 31, 0), -1);
        CHECK.due("many -1", x.see(0, 0, 0, -1), -1);
        CHECK.due("many 10", x.see(0, 0, 0, 10), -1);
        CHECK.due("refused", x.count(14), 4);
        CHECK.due("seen", x.count(10), 0);
        CHECK.due("the edges", x.see(2, 1, 30, 9), 1);
        for (int n = 2; n <= 8; n++) {
            CHECK.due("see " + n, x.see(0, 0, 0, 0), n);
        }
        CHECK.due("a ninth", x.see(0, 0, 0, 0), -1);
        CHECK.due("refused", x.count(14), 5);
        CHECK.due("seen", x.count(10), 8);
        CHECK.due("no act", x.count(9), 0);
        x.forget();
        CHECK.due("forgotten", x.count(10), 0);
        CHECK.due("status stays", x.count(14), 5);
        CHECK.due("see again", x.see(0, 0, 0, 0), 1);
    }

    private static void fonder(String call, PackedCases x, int many, int first, int without) {
        CHECK.due(call + ": how many", x.fonder(0), many);
        CHECK.due(call + ": the first", x.fonder(1), first);
        CHECK.due(call + ": without", x.fonder(2), without);
    }

    private static void fonder() {
        PackedCases x = Texts.with(String.format(HOUSE, 0));
        CHECK.none("fonder 3", () -> x.fonder(3));
        CHECK.none("fonder -1", () -> x.fonder(-1));
        fonder("nothing seen", x, 18, 1, 1);
        x.see(0, 0, 1, 1);
        fonder("a thing 0 is in it", x, 5, 5, 0);
        x.see(0, 0, 8, 1);
        x.see(0, 1, 1, 1);
        fonder("it stays, and so is the other", x, 5, 5, 0);
        x.see(0, 0, 10, 0);
        fonder("crosser then", x, 1, 5, 0);
        x.see(0, 1, 10, 1);
        fonder("but another one is in it", x, 1, 5, 0);
        x.see(0, 0, 9, 1);
        fonder("but it came back", x, 0, -1, 0);
        x.forget();
        x.see(0, 0, 1, 0);
        fonder("none is in it", x, 13, 1, 1);
        x.forget();
        x.see(0, 0, 0, 1);
        fonder("none is in it now", x, 0, -1, 0);
        x.forget();
        x.see(1, 0, 30, 0);
        fonder("1 has nobody", x, 18, 1, 1);
        PackedCases y = Texts.with(String.format(HOUSE, 5));
        fonder("not as it is", y, 18, 0, 1);
        y.see(0, 0, 1, 1);
        fonder("6 to 9, and all of 1's", y, 13, 6, 1);
        PackedCases z = Texts.with("thing 1 5 9;person 0 9 1 0;person 60 9 8 9 by 2;person 0 9 1 0;");
        z.see(1, 0, 1, 0);
        fonder("0 to 4 of 1", z, 5, 10, 0);
        fonder("nobody", new PackedCases(), 0, -1, 1);
    }

    private static void fromNowOn() {
        PackedCases x = Texts.with(String.format(HOUSE, 6));
        x.see(0, 0, 1, 1);
        CHECK.due("so on day 0", x.fonder(2), 1);
        x.days(8);
        CHECK.due("back on day 8, behind that", x.fonder(2), 0);
        x.days(1);
        CHECK.due("not behind day 9: 6 less 1", x.fonder(2), 1);
        CHECK.due("5 to 9 but the one that it is", x.fonder(0), 4 + 9);
    }

    private static void look() {
        PackedCases x = Texts.with(String.format(HOUSE, 0));
        CHECK.none("look 2", () -> x.look(2));
        CHECK.none("look -1", () -> x.look(-1));
        CHECK.due("9 or 8 of thing 0", x.look(0), 0);
        CHECK.due("two numbers", x.look(1), 2);
        x.see(0, 0, 1, 0);
        CHECK.due("of like ones the least", x.look(0), 0);
        CHECK.due("one number", x.look(1), 1);
        x.see(0, 0, 0, 1);
        CHECK.due("none by none", x.look(0), -1);
        CHECK.due("no number", x.look(1), 0);
        fonder("all of seven people", Texts.with("person 0 2 1 9;".repeat(7)), 63, 0, 1);
        PackedCases y = Texts.with("thing 1 0 9;thing 1 5 9;person 60 9 8 0 by 1;person 0 9 1 0;");
        CHECK.due("told the other way", y.look(0), 1);
        CHECK.due("two numbers", y.look(1), 2);
        PackedCases z = Texts.with("thing 1 0 9;thing 1 0 9;person 60 9 1 0 by 1;person 0 5 1 0;puts use+fond;feels fond;");
        CHECK.due("as many as fond", z.look(1), 10);
        CHECK.due("of the first, which both take alike", z.look(0), 0);
        CHECK.due("the day stays", z.count(2), 0);
        PackedCases v = Texts.with("thing 1 0 9;person 0 5 1 0;person 60 9 1 0 by 0;puts fond;feels fond;");
        CHECK.due("behind 10 days 1 is out, packed by 0 who came back", v.look(1), 10);
        PackedCases w = Texts.with("person 60 9 1 0 by 1;person 0 5 1 0;");
        CHECK.due("without things", w.look(0), -1);
        CHECK.due("without things", w.look(1), 0);
    }
}
