/** Promises 9 to 14, 40 and 41: days, the other acts, undo, image, restore. */
public final class ActsTest {
    private static final Check CHECK = new Check();

    private ActsTest() {
    }

    public static void main(String[] args) {
        days();
        moments();
        rooms();
        feelings();
        swap();
        buy();
        packer();
        mend();
        undo();
        mostActs();
        image();
        CHECK.end();
    }

    private static void days() {
        PackedCases x = Texts.with(NowTest.HOUSE);
        for (int wrong : new int[] {0, -1, 21, Integer.MAX_VALUE, Integer.MIN_VALUE}) {
            CHECK.due("days " + wrong, x.days(wrong), -1);
        }
        CHECK.due("refused", x.count(13), 5);
        CHECK.due("no act", x.count(9), 0);
        for (int n = 1; n <= 499; n++) {
            CHECK.due("days 20", x.days(20), 20 * n);
        }
        CHECK.due("days 20 above 9999", x.days(20), -1);
        CHECK.due("days 19", x.days(19), 9999);
        CHECK.due("days 1 above 9999", x.days(1), -1);
        CHECK.due("refused", x.count(13), 7);
        PackedCases y = Texts.with(NowTest.HOUSE);
        PackedCases z = Texts.with(NowTest.HOUSE);
        y.days(7);
        for (int n = 0; n < 7; n++) {
            z.days(1);
        }
        for (int person = 0; person < 3; person++) {
            CHECK.due("seven at once or one by one", y.person(person, 3), z.person(person, 3));
            CHECK.due("seven at once or one by one", y.person(person, 6), z.person(person, 6));
        }
    }

    /** A packer's being in counts at that moment, in the order of people. */
    private static void moments() {
        PackedCases x = Texts.with("thing 1 0 9;person 9 3 2 0;person 9 2 1 0 by 0;");
        x.days(1);
        CHECK.due("0 has left just ahead", x.in(1, 0), 0);
        x.days(2);
        CHECK.due("0 came back just ahead", x.in(1, 0), 1);
        PackedCases y = Texts.with("thing 1 0 9;person 9 2 1 0 by 1;person 9 3 2 0;");
        y.days(1);
        CHECK.due("1 leaves just behind", y.in(0, 0), 1);
        y.days(2);
        CHECK.due("1 comes back just behind", y.in(0, 0), 0);
        CHECK.due("days out", y.person(0, 6), 1);
        CHECK.due("1 is in", y.person(1, 6), 0);
        PackedCases z = Texts.with("thing 1 0 9;person 9 5 4 0;");
        z.days(1);
        CHECK.due("out for four days", z.person(0, 6), 4);
        CHECK.due("nobody packs", z.in(0, 0), 0);
        z.days(3);
        CHECK.due("out still", z.person(0, 6), 1);
        z.days(1);
        CHECK.due("in", z.person(0, 6), 0);
        z.days(1);
        CHECK.due("out again", z.person(0, 6), 4);
    }

    private static void rooms() {
        PackedCases x = Texts.with("thing 4 0 9;thing 3 0 2;thing 1 0 9;person 15 9 8 0 by 2;person 7 2 1 0 by 2;"
                + "person 0 9 8 0;puts 3;");
        x.days(1);
        CHECK.due("three of 4 into 15", x.in(0, 0), 3);
        CHECK.due("one of 3 into 3", x.in(0, 1), 1);
        CHECK.due("none into 0", x.in(0, 2), 0);
        CHECK.due("one of 4 into 7", x.in(1, 0), 1);
        CHECK.due("the last of 3 into 3", x.in(1, 1), 1);
        CHECK.due("stock of 0", x.thing(0, 2), 5);
        CHECK.due("stock of 1", x.thing(1, 2), 0);
        // what is in a case goes with it and stays in it; it holds what its owner's does
        PackedCases y = Texts.with("thing 2 0 9;person 9 8 7 0 by 2;person 3 3 1 0 by 2;person 0 9 1 0;puts 2+day;");
        y.days(1);
        CHECK.due("0 has two", y.in(0, 0), 2);
        CHECK.due("1 has one", y.in(1, 0), 1);
        y.days(1);
        CHECK.due("1 is back", y.in(1, 0), 0);
        y.swap(0, 1);
        CHECK.due("1 has 0's", y.in(1, 0), 2);
        y.days(2);
        CHECK.due("two more into 9 less 4", y.in(1, 0), 4);
        y.days(1);
        CHECK.due("all go back by 1", y.thing(0, 2), 9);
        CHECK.due("0 has nothing", y.in(0, 0), 0);
        y.swap(1, 0);
        y.days(3);
        CHECK.due("0 comes back with nothing", y.thing(0, 2), 9);
        CHECK.due("0 is in", y.person(0, 6), 0);
    }

    private static void feelings() {
        // had 10: one more; had 9: one less
        PackedCases x = Texts.with("thing 1 5 2;thing 1 9 1;person 2 9 1 5 by 2;person 1 9 1 9 by 2;person 0 9 8 0;"
                + "puts 2;");
        x.days(1);
        CHECK.due("0 has two fives", x.then(0, 0, 2), 10);
        CHECK.due("1 has a nine", x.then(1, 0, 2), 9);
        CHECK.due("not yet", x.person(0, 3), 5);
        x.days(1);
        CHECK.due("one more", x.person(0, 3), 6);
        CHECK.due("one less", x.person(1, 3), 8);
        PackedCases y = Texts.with("thing 1 9 9;person 9 2 1 9 by 1;person 9 9 1 0;");
        y.mend(0, 9);
        y.buy(0, 9);
        y.days(2);
        CHECK.due("kept to 0", y.person(1, 3), 0);
        PackedCases z = Texts.with("thing 1 9 9;person 9 2 1 9 by 1;person 9 9 1 0;puts 9;");
        z.days(2);
        CHECK.due("kept to 9", z.person(0, 3), 9);
        // without puts: one, if its use is no more than fond
        PackedCases w = Texts.with("thing 1 4 9;thing 1 5 9;thing 1 6 9;person 9 2 1 5 by 1;person 9 9 1 0;");
        w.days(1);
        CHECK.due("less", w.in(0, 0), 1);
        CHECK.due("as fond", w.in(0, 1), 1);
        CHECK.due("more", w.in(0, 2), 0);
    }

    private static void swap() {
        PackedCases x = Texts.with(NowTest.HOUSE);
        CHECK.none("swap 3 0", () -> x.swap(3, 0));
        CHECK.none("swap 0 3", () -> x.swap(0, 3));
        CHECK.none("swap -1 0", () -> x.swap(-1, 0));
        CHECK.none("swap 0 -1", () -> x.swap(0, -1));
        CHECK.none("swap 3 3", () -> x.swap(3, 3));
        CHECK.due("nothing refused", x.count(13), 0);
        CHECK.due("swap 1 1", x.swap(1, 1), false);
        CHECK.due("refused", x.count(13), 1);
        CHECK.due("no act", x.count(9), 0);
        x.days(1);
        CHECK.due("swap out", x.swap(0, 2), true);
        CHECK.due("with all in it", x.in(2, 0), 1);
        CHECK.due("with nothing in it", x.in(0, 0), 0);
        CHECK.due("whose", x.person(2, 5), 0);
        CHECK.due("holds stays one's own", x.person(2, 0), 20);
        CHECK.due("acts", x.count(9), 2);
        x.days(1);
        CHECK.due("2 brings it back", x.thing(0, 2), 2);
    }

    private static void buy() {
        PackedCases x = Texts.with("thing 1 9 9;person 60 2 1 0 by 1;person 0 9 8 0;puts 3;");
        CHECK.none("buy 1", () -> x.buy(1, 1));
        CHECK.none("buy -1", () -> x.buy(-1, 0));
        CHECK.due("buy 0", x.buy(0, 0), -1);
        CHECK.due("buy 10", x.buy(0, 10), -1);
        CHECK.due("buy greatest int", x.buy(0, Integer.MAX_VALUE), -1);
        CHECK.due("refused", x.count(13), 3);
        CHECK.due("buy 1", x.buy(0, 1), 10);
        for (int n = 1; n <= 9; n++) {
            CHECK.due("buy 9", x.buy(0, 9), 10 + 9 * n);
        }
        CHECK.due("buy to 100", x.buy(0, 9), -1);
        CHECK.due("buy to 99", x.buy(0, 8), 99);
        CHECK.due("buy above", x.buy(0, 1), -1);
        x.days(1);
        CHECK.due("three are out", x.thing(0, 2), 96);
        CHECK.due("three more", x.buy(0, 3), 99);
        x.days(1);
        CHECK.due("above 99 by what comes back", x.thing(0, 2), 102);
        CHECK.due("buy then", x.buy(0, 1), -1);
        CHECK.due("refused", x.count(13), 6);
    }

    private static void packer() {
        PackedCases x = Texts.with(NowTest.HOUSE);
        CHECK.none("packer 3", () -> x.packer(3, 0));
        CHECK.none("packer -1", () -> x.packer(-1, 0));
        CHECK.none("other 3", () -> x.packer(0, 3));
        CHECK.none("other -2", () -> x.packer(0, -2));
        CHECK.due("nothing refused", x.count(13), 0);
        CHECK.due("it is so", x.packer(0, 1), -2);
        CHECK.due("nobody is so", x.packer(2, -1), -2);
        CHECK.due("oneself", x.packer(0, 0), -2);
        CHECK.due("refused", x.count(13), 3);
        CHECK.due("as it was", x.packer(0, 2), 1);
        CHECK.due("as it is", x.person(0, 4), 2);
        CHECK.due("nobody", x.packer(0, -1), 2);
        CHECK.due("is nobody", x.person(0, 4), -1);
        CHECK.due("was nobody", x.packer(0, 1), -1);
        CHECK.due("acts", x.count(9), 3);
        x.packer(0, -1);
        x.days(1);
        CHECK.due("nobody packs", x.in(0, 0), 0);
    }

    private static void mend() {
        PackedCases x = Texts.with(NowTest.HOUSE);
        CHECK.none("mend 3", () -> x.mend(3, 0));
        CHECK.none("mend -1", () -> x.mend(-1, 10));
        CHECK.due("mend -1", x.mend(0, -1), -1);
        CHECK.due("mend 10", x.mend(0, 10), -1);
        CHECK.due("refused", x.count(13), 2);
        CHECK.due("as it was", x.mend(0, 0), 6);
        CHECK.due("as it was then", x.mend(0, 9), 0);
        CHECK.due("as it is", x.person(0, 3), 9);
        CHECK.due("the same number", x.mend(0, 9), 9);
        CHECK.due("acts", x.count(9), 3);
    }

    private static void undo() {
        PackedCases x = Texts.with(NowTest.HOUSE);
        x.swap(0, 1);
        x.buy(0, 3);
        x.packer(2, 0);
        x.mend(0, 2);
        x.days(3);
        x.mend(0, 11);
        x.see(0, 0, 1, 1);
        CHECK.due("undo days", x.undo(), 4);
        CHECK.due("day", x.count(2), 0);
        CHECK.due("all are in", x.count(3), 7);
        CHECK.due("fond", x.person(0, 3), 2);
        CHECK.due("undo mend", x.undo(), 3);
        CHECK.due("fond", x.person(0, 3), 6);
        CHECK.due("packer", x.person(2, 4), 0);
        CHECK.due("undo packer", x.undo(), 2);
        CHECK.due("packer", x.person(2, 4), -1);
        CHECK.due("stock", x.thing(0, 2), 5);
        CHECK.due("undo buy", x.undo(), 1);
        CHECK.due("stock", x.thing(0, 2), 2);
        CHECK.due("mixed", x.count(4), 3);
        CHECK.due("undo swap", x.undo(), 0);
        CHECK.due("not mixed", x.count(4), 0);
        CHECK.due("undo of none", x.undo(), -1);
        CHECK.due("seen stays", x.count(10), 1);
        CHECK.due("refused stays", x.count(13), 1);
    }

    private static void mostActs() {
        PackedCases x = Texts.with("thing 1 0 0;");
        for (int n = 1; n <= 95; n++) {
            x.buy(0, 1);
            CHECK.due("acts", x.count(9), Math.min(n, 40));
        }
        for (int n = 1; n <= 40; n++) {
            CHECK.due("undo", x.undo(), 40 - n);
            CHECK.due("stock", x.thing(0, 2), 95 - n);
        }
        CHECK.due("the earlier ones are not kept", x.undo(), -1);
        CHECK.due("stock", x.thing(0, 2), 55);
        CHECK.due("buy again", x.buy(0, 2), 57);
        CHECK.due("undo again", x.undo(), 0);
        CHECK.due("stock", x.thing(0, 2), 55);
    }

    private static void image() {
        PackedCases x = Texts.with(NowTest.HOUSE);
        CHECK.due("no image", x.restore(), false);
        x.swap(0, 1);
        x.packer(2, 0);
        x.days(1);
        x.see(0, 0, 1, 1);
        x.image();
        x.days(3);
        x.swap(1, 2);
        x.buy(0, 1);
        x.packer(0, 2);
        x.mend(1, 7);
        x.see(1, 1, 1, 1);
        x.mend(1, 70);
        x.feed(1, 2, 3, 4, 5);
        for (int again = 0; again < 2; again++) {
            CHECK.due("restore", x.restore(), true);
            CHECK.due("day", x.count(2), 1);
            CHECK.due("in", x.count(3), 0);
            CHECK.due("out", x.person(0, 6), 2);
            CHECK.due("mixed", x.count(4), 3);
            CHECK.due("in a case", x.in(0, 0), 1);
            CHECK.due("stock", x.thing(0, 2), 1);
            CHECK.due("fond", x.person(1, 3), 1);
            CHECK.due("packer", x.person(0, 4), 1);
            CHECK.due("acts", x.count(9), 3);
            CHECK.due("seen", x.count(10), 1);
            CHECK.due("the tape is no part", x.count(11), 20);
            CHECK.due("status is no part", x.count(13), 1);
            x.days(1);
            x.forget();
        }
        x.restore();
        CHECK.due("what was seen is so again: 0 has one now, and none behind it", x.fonder(2), 1);
        CHECK.due("undo by its acts", x.undo(), 2);
        CHECK.due("day", x.count(2), 0);
        CHECK.due("undo by its acts", x.undo(), 1);
        CHECK.due("packer", x.person(2, 4), -1);
        x.image();
        x.undo();
        CHECK.due("restore the later image", x.restore(), true);
        CHECK.due("acts of the later image", x.count(9), 1);
        CHECK.due("mixed", x.count(4), 3);
        for (int n = 0; n < 50; n++) {
            x.mend(0, n % 10);
        }
        x.image();
        for (int n = 0; n < 15; n++) {
            x.mend(0, 0);
        }
        x.restore();
        CHECK.due("forty acts", x.count(9), 40);
        x.undo();
        CHECK.due("fond ahead of the last", x.person(0, 3), 8);
        x.undo();
        CHECK.due("fond ahead of the one ahead", x.person(0, 3), 7);
    }
}
