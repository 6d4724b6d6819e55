/** Promises 22 to 24: best, toHold, balance. */
public final class PackingTest {
    private static final Check CHECK = new Check();

    private PackingTest() {
    }

    public static void main(String[] args) {
        best();
        bestOfLikeOnes();
        bestOfTheCaseAtHand();
        toHold();
        balance();
        CHECK.end();
    }

    private static void best(String call, PackedCases x, int person, int use, int... many) {
        CHECK.due(call + ": how much", x.best(person, -1), use);
        for (int thing = 0; thing < many.length; thing++) {
            CHECK.due(call + ": of " + thing, x.best(person, thing), many[thing]);
        }
    }

    private static void best() {
        PackedCases x = Texts.with(NowTest.HOUSE);
        best("12", x, 0, 10, 2, 0);
        best("5", x, 1, 5, 1, 0);
        best("20", x, 2, 12, 2, 1);
        CHECK.none("best of 3", () -> x.best(3, -1));
        CHECK.none("best of -1", () -> x.best(-1, -1));
        CHECK.none("best of thing 2", () -> x.best(0, 2));
        CHECK.none("best of thing -2", () -> x.best(0, -2));
        // the dearest by weight is not the best way
        best("by weight", Texts.with("thing 6 7 9;thing 5 5 9;person 10 2 1 0;"), 0, 10, 0, 2);
        best("no more than stock", Texts.with("thing 1 9 3;thing 2 1 9;person 60 2 1 0;"), 0, 36, 3, 9);
        best("nothing goes in", Texts.with("thing 1 9 3;person 0 2 1 0;"), 0, 0, 0);
        best("all sorts", Texts.with("thing 20 9 9;thing 19 9 9;thing 7 4 9;thing 6 3 9;thing 2 1 9;thing 1 0 9;"
                + "person 60 2 1 0;"), 0, 34, 0, 0, 8, 0, 2, 0);
    }

    private static void bestOfLikeOnes() {
        best("more of the first", Texts.with("thing 2 2 9;thing 1 1 9;person 6 2 1 0;"), 0, 6, 3, 0);
        best("more of the first, told the other way", Texts.with("thing 1 1 9;thing 2 2 9;person 6 2 1 0;"), 0, 6, 6, 0);
        best("of no use, but first", Texts.with("thing 1 0 9;thing 2 5 2;person 7 2 1 0;"), 0, 10, 3, 2);
        best("of no use, behind", Texts.with("thing 2 5 2;thing 3 0 9;person 9 2 1 0;"), 0, 10, 2, 1);
        best("no use at all", Texts.with("thing 4 0 9;thing 3 0 9;person 11 2 1 0;"), 0, 0, 2, 1);
    }

    private static void bestOfTheCaseAtHand() {
        PackedCases x = Texts.with(NowTest.HOUSE);
        x.swap(0, 2);
        best("another one's case", x, 0, 12, 2, 1);
        best("one's own is with another", x, 2, 10, 2, 0);
        x.days(1);
        CHECK.due("one is in it", x.in(0, 0) + x.in(0, 1), 2);
        best("were it empty, of what the cupboard has", x, 0, 5, 1, 0);
        x.buy(0, 9);
        best("with what is bought", x, 0, 30, 6, 0);
    }

    private static void toHold() {
        PackedCases x = Texts.with("thing 3 5 2;thing 10 2 1;thing 7 0 9;thing 20 9 0;person 60 9 8 9 by 1;"
                + "person 0 9 8 0;");
        CHECK.due("all that has a use", x.toHold(), 16);
        x.buy(3, 2);
        CHECK.due("with what is bought", x.toHold(), 56);
        x.days(1);
        CHECK.due("without what is in cases", x.toHold(), 23);
        CHECK.due("nothing", new PackedCases().toHold(), 0);
    }

    private static void balance() {
        PackedCases x = Texts.with("thing 1 0 1;thing 3 0 9;thing 9 0 1;thing 20 0 1;thing 4 0 0;thing 20 0 1;");
        CHECK.due("1", x.balance(1), 1);
        CHECK.due("2: 1 with it, 3 against it", x.balance(2), 2);
        CHECK.due("3", x.balance(3), 1);
        CHECK.due("4: the cupboard has none of it", x.balance(4), 2);
        CHECK.due("6: one of each", x.balance(6), 2);
        CHECK.due("5: 1 and 3 with it", x.balance(5), 3);
        CHECK.due("40", x.balance(40), 2);
        CHECK.due("53: all", x.balance(53), 5);
        CHECK.due("54: more than all", x.balance(54), -1);
        CHECK.due("99", x.balance(99), -1);
        CHECK.due("14: 9 with it, 20 and 3 against it", x.balance(14), 3);
        CHECK.due("5 by 3 and 10", Texts.with(NowTest.HOUSE).balance(5), -1);
        x.buy(4, 1);
        CHECK.due("4 then", x.balance(4), 1);
        CHECK.due("5 then", x.balance(5), 2);
        for (int wrong : new int[] {0, -1, 100, Integer.MAX_VALUE, Integer.MIN_VALUE}) {
            CHECK.illegal("balance " + wrong, () -> x.balance(wrong));
        }
        CHECK.due("no things", new PackedCases().balance(1), -1);
        CHECK.due("the greatest", Texts.with("thing 20 0 1;".repeat(4) + "thing 19 0 1;").balance(99), 5);
    }
}
