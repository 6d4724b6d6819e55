import java.util.function.Consumer;

/** ACTS, undo, image and restore (promises 9 to 14, 40, 41): each sentence with a bound, at it and on both sides. */
public final class ActEdgesTest {
    private static final Check CHECK = new Check();
    private static final String HOUSE = "thing 3 5 2;thing 10 2 1;person 12 4 2 6 by 1;person 5 3 1 1 by 0;"
            + "person 20 2 1 9;";

    private ActEdgesTest() {
    }

    public static void main(String[] args) {
        oneToTwentyDays();
        noDayAbove9999();
        aheadOfTheLastDay();
        swapsInOrOut();
        swapOfOne();
        oneToNineMore();
        noStockAbove99();
        anotherPacker();
        packerThatIsSo();
        fromNowOn();
        mendedTo();
        atMostForty();
        fortyOfAKind();
        lastOneFirst();
        refusedActsAreNone();
        undoOfNone();
        wholeImage();
        inPlaceOfAnother();
        imageOfForty();
        imageIsGone();
        CHECK.end();
    }

    /** A refused call changes one number of STATUS, and nothing else. */
    private static void refused(String call, PackedCases x, int status, Consumer<PackedCases> act) {
        Snapshot due = Snapshot.of(x).withCount(status, 1);
        act.accept(x);
        CHECK.due(call + ": one more is refused, nothing else changes", Snapshot.of(x).isLike(due), true);
    }

    private static PackedCases inTheMiddle() {
        PackedCases x = Texts.with(HOUSE);
        x.days(5);
        x.swap(0, 2);
        x.buy(1, 3);
        return x;
    }

    /** "DAYS go by (1 to 20)"; "NONE (STATUS 1): not 1 to 20". */
    private static void oneToTwentyDays() {
        for (int wrong : new int[] {0, -1, 21, 22, Integer.MAX_VALUE, Integer.MIN_VALUE}) {
            CHECK.due("days " + wrong, inTheMiddle().days(wrong), -1);
            refused("days " + wrong, inTheMiddle(), 13, x -> x.days(wrong));
        }
        for (int many = 1; many <= 20; many++) {
            PackedCases x = Texts.with(HOUSE);
            PackedCases y = Texts.with(HOUSE);
            CHECK.due("days " + many, x.days(many), many);
            CHECK.due("that is one act", x.count(9), 1);
            CHECK.due("nothing is refused", x.count(13), 0);
            for (int day = 1; day <= many; day++) {
                y.days(1);
            }
            Snapshot due = Snapshot.of(y).withCount(9, 1 - many);
            CHECK.due(many + " at once are as one by one", Snapshot.of(x).isLike(due), true);
        }
    }

    private static PackedCases onDay(int day) {
        PackedCases x = Texts.with("thing 1 1 9;person 9 3 2 5 by 1;person 9 9 1 5;");
        for (int left = day; left > 0; left -= 20) {
            x.days(Math.min(20, left));
        }
        return x;
    }

    /** "NONE (STATUS 1): .. it would be above 9999." */
    private static void noDayAbove9999() {
        CHECK.due("9979 and 20", onDay(9979).days(20), 9999);
        CHECK.due("9978 and 20", onDay(9978).days(20), 9998);
        CHECK.due("9998 and 1", onDay(9998).days(1), 9999);
        int[][] wrong = {{9980, 20}, {9981, 19}, {9981, 20}, {9998, 2}, {9999, 1}, {9999, 20}};
        for (int[] row : wrong) {
            PackedCases x = onDay(row[0]);
            CHECK.due(row[0] + " and " + row[1], x.days(row[1]), -1);
            CHECK.due("refused", x.count(13), 1);
            CHECK.due("the day stays", x.count(2), row[0]);
            CHECK.due("as many as may be", x.days(9999 - row[0]), row[0] == 9999 ? -1 : 9999);
        }
    }

    /** What would be behind so many days is told of days above 9999, too. */
    private static void aheadOfTheLastDay() {
        PackedCases x = onDay(9999);
        // 9999 MOD 3 is 0
        CHECK.due("0 leaves", x.next(0), 1);
        CHECK.due("0 is out then", x.then(0, 1, 0), 0);
        CHECK.due("a hundred days on", x.trips(0, 100, 0), 34);
        CHECK.due("years", x.years(3, 100, 0), 34 + 12);
        CHECK.due("the day stays", x.count(2), 9999);
        CHECK.due("undo", x.undo(), 39);
        CHECK.due("19 days less", x.count(2), 9980);
    }

    /** "two SWAP their CASES, with all in them, IN or OUT". */
    private static void swapsInOrOut() {
        // behind a day 0 is out with 3, 1 is out with 2; behind two 1 is in; behind three both are
        for (int days = 0; days <= 3; days++) {
            PackedCases x = Texts.with("thing 1 1 9;person 3 9 2 5 by 2;person 2 9 1 5 by 2;person 9 9 8 5;puts 9;");
            if (days > 0) {
                x.days(days);
            }
            int zero = x.in(0, 0);
            int one = x.in(1, 0);
            CHECK.due("0 has", zero, days == 1 || days == 2 ? 3 : 0);
            CHECK.due("1 has", one, days == 1 ? 2 : 0);
            CHECK.due("swap", x.swap(0, 1), true);
            CHECK.due("0 has what 1 had", x.in(0, 0), one);
            CHECK.due("1 has what 0 had", x.in(1, 0), zero);
            CHECK.due("whose 0 has", x.person(0, 5), 1);
            CHECK.due("whose 1 has", x.person(1, 5), 0);
            CHECK.due("2 has its own", x.person(2, 5), 2);
            CHECK.due("mixed", x.count(4), 3);
            CHECK.due("back again, told the other way", x.swap(1, 0), true);
            CHECK.due("0 has its own", x.in(0, 0), zero);
            CHECK.due("nothing is mixed", x.count(4), 0);
            CHECK.due("two acts more", x.count(9), days == 0 ? 2 : 3);
        }
    }

    /** "False (STATUS 1): both are one." */
    private static void swapOfOne() {
        for (int person = 0; person < 3; person++) {
            int one = person;
            CHECK.due("swap of one", inTheMiddle().swap(one, one), false);
            refused("swap of one", inTheMiddle(), 13, x -> x.swap(one, one));
        }
        CHECK.none("no such person, twice", () -> inTheMiddle().swap(3, 3));
        CHECK.none("nobody, twice", () -> inTheMiddle().swap(-1, -1));
    }

    /** "1 to 9 more of a THING are BOUGHT"; "NONE (STATUS 1): not 1 to 9". */
    private static void oneToNineMore() {
        for (int wrong : new int[] {0, -1, 10, 11, Integer.MAX_VALUE, Integer.MIN_VALUE}) {
            CHECK.due("buy " + wrong, inTheMiddle().buy(0, wrong), -1);
            refused("buy " + wrong, inTheMiddle(), 13, x -> x.buy(0, wrong));
        }
        for (int many = 1; many <= 9; many++) {
            PackedCases x = Texts.with(HOUSE);
            CHECK.due("buy " + many, x.buy(0, many), 2 + many);
            CHECK.due("stock then", x.thing(0, 2), 2 + many);
            CHECK.due("of the other as it was", x.thing(1, 2), 1);
            CHECK.due("one act", x.count(9), 1);
        }
    }

    private static PackedCases withStock(int stock) {
        PackedCases x = Texts.with("thing 1 1 0;");
        for (int left = stock; left > 0; left -= 9) {
            x.buy(0, Math.min(9, left));
        }
        return x;
    }

    /** "(to STOCK; not, if it would be above 99 then)"; "STOCK would be above 99". */
    private static void noStockAbove99() {
        for (int stock = 88; stock <= 99; stock++) {
            for (int many = 1; many <= 9; many++) {
                PackedCases x = withStock(stock);
                boolean goes = stock + many <= 99;
                CHECK.due(stock + " and " + many, x.buy(0, many), goes ? stock + many : -1);
                CHECK.due("refused", x.count(13), goes ? 0 : 1);
                CHECK.due("stock then", x.thing(0, 2), goes ? stock + many : stock);
            }
        }
    }

    /** "one's PACKER is another one from now on, or nobody"; "The PACKER as it was (NONE)". */
    private static void anotherPacker() {
        PackedCases x = Texts.with(HOUSE);
        CHECK.due("from 1 to 2", x.packer(0, 2), 1);
        CHECK.due("is 2", x.person(0, 4), 2);
        CHECK.due("from 2 to nobody", x.packer(0, -1), 2);
        CHECK.due("is nobody", x.person(0, 4), -1);
        CHECK.due("from nobody to 1", x.packer(0, 1), -1);
        CHECK.due("is 1", x.person(0, 4), 1);
        CHECK.due("from nobody to the first", x.packer(2, 0), -1);
        CHECK.due("three acts and one", x.count(9), 4);
        CHECK.due("nothing is refused", x.count(13), 0);
        CHECK.none("behind the last", () -> x.packer(0, 3));
        CHECK.none("ahead of nobody", () -> x.packer(0, -2));
        CHECK.none("of nobody", () -> x.packer(-1, 0));
        CHECK.none("of one behind the last, as it were oneself", () -> x.packer(3, 3));
        CHECK.none("of nobody, to nobody", () -> x.packer(-1, -1));
    }

    /** "-2 (STATUS 1): it is so, it is oneself." */
    private static void packerThatIsSo() {
        int[][] wrong = {{0, 1}, {1, 0}, {2, -1}, {0, 0}, {1, 1}, {2, 2}};
        for (int[] row : wrong) {
            CHECK.due("packer " + row[0] + " " + row[1], inTheMiddle().packer(row[0], row[1]), -2);
            refused("packer " + row[0] + " " + row[1], inTheMiddle(), 13, x -> x.packer(row[0], row[1]));
        }
    }

    private static void fromNowOn() {
        PackedCases x = Texts.with("thing 1 0 9;person 9 3 1 0;person 9 4 1 0;person 0 9 8 0;");
        CHECK.due("nobody packs", x.packed(0, 0, 1), 0);
        x.packer(0, 1);
        CHECK.due("1 packs, who is in on day 0", x.packed(0, 0, 1), 1);
        x.packer(0, 2);
        CHECK.due("2 packs, who is in on day 0", x.packed(0, 0, 1), 1);
        CHECK.due("2 is out on day 3", x.packed(0, 0, 4), 0);
        x.packer(0, 1);
        CHECK.due("1 is in on day 3", x.packed(0, 0, 4), 1);
        x.packer(0, -1);
        CHECK.due("nobody packs", x.packed(0, 0, 4), 0);
    }

    /** "FOND of one is MENDED: another number (0 to 9)"; "NONE (STATUS 1): not 0 to 9". */
    private static void mendedTo() {
        for (int wrong : new int[] {-1, -2, 10, 11, Integer.MAX_VALUE, Integer.MIN_VALUE}) {
            CHECK.due("mend to " + wrong, inTheMiddle().mend(0, wrong), -1);
            refused("mend to " + wrong, inTheMiddle(), 13, x -> x.mend(0, wrong));
        }
        for (int was = 0; was <= 9; was++) {
            for (int fond = 0; fond <= 9; fond++) {
                PackedCases x = Texts.with("person 0 2 1 3;person 0 2 1 " + was + ";");
                CHECK.due("mend " + was + " to " + fond, x.mend(1, fond), was);
                CHECK.due("fond then", x.person(1, 3), fond);
                CHECK.due("of the other as it was", x.person(0, 3), 3);
                CHECK.due("one act", x.count(9), 1);
                CHECK.due("nothing is refused", x.count(13), 0);
            }
        }
    }

    /** "ACTS (at most 40 are kept, the latest ones)". */
    private static void atMostForty() {
        for (int acts : new int[] {1, 39, 40, 41, 42, 79, 80, 81, 99}) {
            PackedCases x = Texts.with("thing 1 0 0;");
            for (int act = 1; act <= acts; act++) {
                CHECK.due("buy", x.buy(0, 1), act);
                CHECK.due("kept", x.count(9), Math.min(40, act));
            }
            int kept = Math.min(40, acts);
            for (int left = kept - 1; left >= 0; left--) {
                CHECK.due("left of " + acts, x.undo(), left);
            }
            CHECK.due("no more of " + acts, x.undo(), -1);
            CHECK.due("as it was ahead of the oldest that is kept", x.thing(0, 2), acts - kept);
            CHECK.due("one more", x.buy(0, 1), acts - kept + 1);
            CHECK.due("is kept", x.count(9), 1);
        }
        // some undone, some more: the row of what is kept goes round
        PackedCases x = Texts.with("thing 1 0 0;");
        for (int round = 0; round < 3; round++) {
            for (int act = 0; act < 30; act++) {
                x.buy(0, 1);
            }
            for (int act = 0; act < 7; act++) {
                x.undo();
            }
        }
        CHECK.due("kept", x.count(9), 33);
        CHECK.due("stock", x.thing(0, 2), 69);
        for (int left = 32; left >= 0; left--) {
            CHECK.due("left", x.undo(), left);
        }
        CHECK.due("stock", x.thing(0, 2), 36);
        CHECK.due("no more", x.undo(), -1);
    }

    private static void act(PackedCases x, int kind, int n) {
        switch (kind) {
            case 0: x.days(1 + n % 20); break;
            case 1: x.swap(n % 3, (n + 1) % 3); break;
            case 2: x.buy(n % 2, 1); break;
            case 3: x.packer(2, n % 2); break;
            default: x.mend(n % 3, n % 10); break;
        }
    }

    /** Every kind of ACT is kept and undone alike, the 41st last one of no kind. */
    private static void fortyOfAKind() {
        for (int kind = 0; kind < 5; kind++) {
            PackedCases x = Texts.with(HOUSE);
            PackedCases y = Texts.with(HOUSE);
            for (int n = 0; n < 45; n++) {
                act(x, kind, n);
                if (n < 5) {
                    act(y, kind, n);
                }
            }
            CHECK.due("kept of kind " + kind, x.count(9), 40);
            for (int left = 39; left >= 0; left--) {
                CHECK.due("left of kind " + kind, x.undo(), left);
            }
            Snapshot due = Snapshot.of(y).withCount(9, -5);
            CHECK.due("as behind the first five of kind " + kind, Snapshot.of(x).isLike(due), true);
        }
    }

    /** "They are UNDONE, the last one first."; "The last ACT is UNDONE: how many are left." */
    private static void lastOneFirst() {
        Snapshot[] ahead = new Snapshot[5];
        for (int acts = 0; acts < 5; acts++) {
            PackedCases partly = Texts.with(HOUSE);
            for (int kind = 0; kind < acts; kind++) {
                act(partly, kind, 3);
            }
            ahead[acts] = Snapshot.of(partly);
        }
        PackedCases x = Texts.with(HOUSE);
        for (int kind = 0; kind < 5; kind++) {
            act(x, kind, 3);
        }
        CHECK.due("kept", x.count(9), 5);
        for (int left = 4; left >= 0; left--) {
            CHECK.due("left", x.undo(), left);
            CHECK.due("as behind " + left, Snapshot.of(x).isLike(ahead[left]), true);
        }
    }

    /** What is refused is no ACT and can't be undone; what is SEEN is none either. */
    private static void refusedActsAreNone() {
        PackedCases x = Texts.with(HOUSE);
        x.mend(0, 3);
        x.days(0);
        x.days(21);
        x.swap(1, 1);
        x.buy(0, 10);
        x.packer(0, 0);
        x.packer(0, 1);
        x.mend(0, 10);
        x.see(0, 0, 0, 0);
        x.forget();
        x.image();
        x.restore();
        CHECK.due("kept", x.count(9), 1);
        CHECK.due("refused", x.count(13), 7);
        CHECK.due("undo", x.undo(), 0);
        CHECK.due("mend is undone", x.person(0, 3), 6);
        CHECK.due("refused still", x.count(13), 7);
    }

    /** "NONE: there is none." That is no call that STATUS counts. */
    private static void undoOfNone() {
        PackedCases x = Texts.with(HOUSE);
        Snapshot due = Snapshot.of(x);
        CHECK.due("undo", x.undo(), -1);
        CHECK.due("undo", x.undo(), -1);
        CHECK.due("nothing changes", Snapshot.of(x).isLike(due), true);
        x.days(1);
        CHECK.due("undo of one", x.undo(), 0);
        CHECK.due("undo of none", x.undo(), -1);
        CHECK.due("nothing changes", Snapshot.of(x).isLike(due), true);
        CHECK.due("undo in a new object", new PackedCases().undo(), -1);
    }

    /** "The DAY, .. ACTS and what is SEEN are kept as an image": STATUS and the tape are none of these. */
    private static void wholeImage() {
        PackedCases x = inTheMiddle();
        x.packer(2, 0);
        x.mend(1, 4);
        x.see(0, 0, 1, 1);
        x.see(1, 1, 2, 0);
        Snapshot due = Snapshot.of(x);
        int so = x.fonder(0);
        x.image();
        for (int kind = 0; kind < 5; kind++) {
            act(x, kind, 5);
            CHECK.due("restore behind an act of kind " + kind, x.restore(), true);
            CHECK.due("all is as it was", Snapshot.of(x).isLike(due), true);
        }
        PackedCases y = inTheMiddle();
        y.packer(2, 0);
        y.mend(1, 4);
        y.see(0, 0, 1, 1);
        y.see(1, 1, 2, 0);
        y.image();
        y.forget();
        y.see(2, 0, 1, 9);
        y.undo();
        y.undo();
        y.mend(1, 77);
        y.see(0, 0, 99, 0);
        Texts.house(y, "?");
        Texts.feed(y, "?");
        CHECK.due("restore", y.restore(), true);
        CHECK.due("what was seen is as it was", y.fonder(0), so);
        Snapshot also = due.withCount(11, 20).withCount(12, 1).withCount(13, 1).withCount(14, 1).withCount(15, 1);
        CHECK.due("all but status, tape and fault is as it was", Snapshot.of(y).isLike(also), true);
        for (int left = 4; left >= 0; left--) {
            CHECK.due("its acts can be undone", y.undo(), left);
        }
        CHECK.due("all of them", y.count(2), 0);
    }

    /** "in place of another one"; "They are as the image again: true. False: there is none." */
    private static void inPlaceOfAnother() {
        PackedCases x = Texts.with(HOUSE);
        CHECK.due("none", x.restore(), false);
        CHECK.due("nothing changes", x.count(9), 0);
        CHECK.due("none of a new object", new PackedCases().restore(), false);
        x.image();
        x.days(3);
        x.image();
        x.days(4);
        CHECK.due("restore", x.restore(), true);
        CHECK.due("the latest", x.count(2), 3);
        CHECK.due("restore again", x.restore(), true);
        CHECK.due("as it is", x.count(2), 3);
        CHECK.due("undo", x.undo(), 0);
        CHECK.due("ahead of it", x.count(2), 0);
        CHECK.due("restore once more", x.restore(), true);
        CHECK.due("the same", x.count(2), 3);
        CHECK.due("its acts", x.count(9), 1);
    }

    /** ACTS of an image go round like others: 40 of them, whose row began anew. */
    private static void imageOfForty() {
        PackedCases x = Texts.with("thing 1 0 0;");
        for (int n = 0; n < 53; n++) {
            x.buy(0, 1);
        }
        x.image();
        for (int n = 0; n < 23; n++) {
            x.buy(0, 2);
        }
        x.restore();
        CHECK.due("kept", x.count(9), 40);
        CHECK.due("stock", x.thing(0, 2), 53);
        for (int left = 39; left >= 0; left--) {
            CHECK.due("left", x.undo(), left);
            CHECK.due("stock", x.thing(0, 2), 13 + left);
        }
        CHECK.due("no more", x.undo(), -1);
        x.restore();
        CHECK.due("the image stays", x.thing(0, 2), 53);
    }

    /** A house without a FAULT takes the image with it, also an empty one; a FAULT leaves it. */
    private static void imageIsGone() {
        PackedCases x = Texts.with(HOUSE);
        x.image();
        Texts.house(x, "?");
        CHECK.due("behind a fault", x.restore(), true);
        CHECK.illegal("a wrong length", () -> x.house(1));
        CHECK.due("behind a wrong length", x.restore(), true);
        x.house(0);
        CHECK.due("behind an empty house", x.restore(), false);
        x.image();
        CHECK.due("an image of the empty house", x.restore(), true);
        Texts.house(x, HOUSE);
        CHECK.due("behind another house", x.restore(), false);
        CHECK.due("that house stays", x.count(1), 3);
    }
}
