/** Promises 2 to 4, feed, house and fault: each sentence with a bound, at the bound and on both sides of it. */
public final class TapeEdgesTest {
    private static final Check CHECK = new Check();
    private static final int BLANKS = 0x20202020;

    private TapeEdgesTest() {
    }

    public static void main(String[] args) {
        highestFirst();
        everyBit();
        behindTheTape();
        noMoreThan700();
        firstBytes();
        wrongLengths();
        nothingChangesByAWrongLength();
        allAnew();
        allAnewAgain();
        asksAnew();
        allStays();
        whatIsGone();
        placeOfTheLatestFault();
        CHECK.end();
    }

    private static int blanks(PackedCases x) {
        return x.feed(BLANKS, BLANKS, BLANKS, BLANKS, BLANKS);
    }

    /** "Twenty bytes come .., of each number the highest first": a byte that is none stands at each place once. */
    private static void highestFirst() {
        for (int place = 0; place < 20; place++) {
            int[] five = {BLANKS, BLANKS, BLANKS, BLANKS, BLANKS};
            five[place / 4] ^= 0x01 << 24 - place % 4 * 8;
            PackedCases x = new PackedCases();
            x.feed(five[0], five[1], five[2], five[3], five[4]);
            CHECK.due("a byte at " + place, x.house(20), 1);
            CHECK.due("its place", x.fault(), place);
            blanks(x);
            x.feed(five[0], five[1], five[2], five[3], five[4]);
            CHECK.due("a byte at 20 and " + place, x.house(40), 1);
            CHECK.due("its place", x.fault(), 20 + place);
        }
    }

    /** A byte is all of its eight bits, in numbers below 0, too. */
    private static void everyBit() {
        for (int bit = 0; bit < 8; bit++) {
            for (int shift = 0; shift <= 24; shift += 8) {
                PackedCases x = new PackedCases();
                x.feed(BLANKS ^ 1 << bit + shift, BLANKS, BLANKS, BLANKS, BLANKS);
                CHECK.due("32 but for bit " + bit, x.house(20), 1);
                CHECK.due("its place", x.fault(), 3 - shift / 8);
            }
        }
        PackedCases x = new PackedCases();
        x.feed(-1, -1, -1, -1, -1);
        CHECK.due("255s", x.house(20), 1);
        x.feed(0, 0, 0, 0, 0);
        CHECK.due("0s", x.house(20), 1);
        x.feed(0x0a0a0a0a, 0x200a200a, BLANKS, 0x0a202020, 0x2020200a);
        CHECK.due("32s and 10s", x.house(20), 0);
    }

    /** ".. come behind the tape .. : how many it has". */
    private static void behindTheTape() {
        String text = "thing 3 5 2;person 12 4 2 6 by 1;person 5 3 1 1 by 0;";
        for (int ahead = 0; ahead <= 40; ahead++) {
            PackedCases x = new PackedCases();
            String moved = " ".repeat(ahead) + text;
            int many = 0;
            for (int[] five : Texts.fives(moved)) {
                many += 20;
                CHECK.due("how many it has", x.feed(five[0], five[1], five[2], five[3], five[4]), many);
                CHECK.due("as count tells", x.count(11), many);
            }
            CHECK.due("a text behind " + ahead, x.house(moved.length()), 0);
            CHECK.due("its last number", x.person(1, 4), 0);
        }
    }

    /** "NONE, and none come, if it would have more than 700." */
    private static void noMoreThan700() {
        PackedCases x = new PackedCases();
        for (int feeds = 1; feeds <= 34; feeds++) {
            CHECK.due("feed " + feeds, blanks(x), 20 * feeds);
        }
        CHECK.due("680 and 20", blanks(x), 700);
        CHECK.due("700 and 20", x.feed(-1, -1, -1, -1, -1), -1);
        CHECK.due("700 and 20, again", x.feed(-1, -1, -1, -1, -1), -1);
        CHECK.due("700 still", x.count(11), 700);
        for (int what = 12; what <= 14; what++) {
            CHECK.due("that is no status " + what, x.count(what), 0);
        }
        CHECK.due("none came", x.house(700), 0);
        CHECK.due("it begins anew", x.feed(-1, -1, -1, -1, -1), 20);
        CHECK.due("with these bytes", x.house(20), 1);
        CHECK.due("at their first", x.fault(), 0);
    }

    /** "The tape's first n bytes (it is empty then) are a HOUSE". */
    private static void firstBytes() {
        String text = "thing 3 5 2;thing 4 5 2;???";
        for (int n = 0; n <= 40; n++) {
            PackedCases x = new PackedCases();
            Texts.feed(x, text);
            int due = n == 0 || n == 12 || n == 24 ? 0 : 1;
            CHECK.due("the first " + n, x.house(n), due);
            CHECK.due("the tape is empty then", x.count(11), 0);
            CHECK.due("things", x.count(0), due == 0 ? n / 12 : 0);
            CHECK.due("refused", x.count(12), due);
        }
        PackedCases x = new PackedCases();
        Texts.feed(x, "thing 3 5 2;        thing 4 5 2;        ");
        x.house(20);
        CHECK.illegal("the rest is gone, too", () -> x.house(1));
        CHECK.due("things", x.count(0), 1);
    }

    /** "IllegalArgumentException: the tape has not so many, n below 0". */
    private static void wrongLengths() {
        for (int feeds : new int[] {0, 1, 2, 34, 35}) {
            PackedCases x = new PackedCases();
            for (int feed = 0; feed < feeds; feed++) {
                blanks(x);
            }
            int many = 20 * feeds;
            for (int n : new int[] {-1, -2, many + 1, many + 2, 701, Integer.MAX_VALUE, Integer.MIN_VALUE}) {
                CHECK.illegal("house " + n + " of " + many, () -> x.house(n));
            }
            CHECK.due("the tape stays", x.count(11), many);
            CHECK.due("house of all " + many, x.house(many), 0);
            CHECK.due("house of none", x.house(0), 0);
            CHECK.illegal("house of one of none", () -> x.house(1));
        }
    }

    private static PackedCases inTheMiddle() {
        PackedCases x = Texts.with("thing 3 5 2;thing 10 2 1;person 12 4 2 6 by 1;person 5 3 1 1 by 0;person 20 2 1 9;"
                + "puts 1;feels fond;");
        x.days(5);
        x.swap(0, 2);
        x.buy(1, 3);
        x.packer(2, 1);
        x.mend(1, 7);
        x.mend(1, 10);
        x.see(0, 0, 3, 1);
        x.see(0, 0, 31, 1);
        return x;
    }

    /** "(nothing changes)". */
    private static void nothingChangesByAWrongLength() {
        PackedCases x = inTheMiddle();
        x.image();
        Texts.house(x, "puts;");
        blanks(x);
        Snapshot ahead = Snapshot.of(x);
        for (int n : new int[] {-1, 21, Integer.MAX_VALUE, Integer.MIN_VALUE}) {
            CHECK.illegal("house " + n, () -> x.house(n));
        }
        CHECK.due("all is as it was", Snapshot.of(x).isLike(ahead), true);
        CHECK.due("the fault's place, too", x.fault(), 4);
        CHECK.due("the image, too", x.restore(), true);
    }

    /** ".. are a HOUSE, all anew: 0". */
    private static void allAnew() {
        String text = "thing 1 1 1;person 9 5 4 3;";
        PackedCases x = inTheMiddle();
        CHECK.due("another house", Texts.house(x, text), 0);
        // STATUS stays: one act, one of what is seen
        Snapshot due = Snapshot.of(Texts.with(text)).withCount(13, 1).withCount(14, 1);
        CHECK.due("as in a new object", Snapshot.of(x).isLike(due), true);
        PackedCases y = inTheMiddle();
        CHECK.due("an empty house", y.house(0), 0);
        due = Snapshot.of(new PackedCases()).withCount(13, 1).withCount(14, 1);
        CHECK.due("as a new object", Snapshot.of(y).isLike(due), true);
        PackedCases z = Texts.with("thing 1 9 9;person 9 2 1 3 by 1;person 0 9 8 0;puts 5;feels 5;");
        Texts.house(z, "thing 1 3 9;person 9 2 1 3 by 1;person 0 9 8 0;");
        CHECK.due("puts is gone", z.packed(0, 0, 1), 1);
        CHECK.due("feels is gone", z.then(0, 2, 1), 2);
    }

    /** Nothing of any earlier text is left, be it one with a FAULT: one object after another house reads as a new one. */
    private static void allAnewAgain() {
        String two = "person 60 2 1 4 by 1;person 0 9 8 0;";
        String[] texts = {
            "thing 1 7 9;thing 2 7 9;" + two + "puts 4;feels 3;",
            "thing 1 7 9;" + two + "person 5 2 1 1;puts 2;feels 6;",
            "thing 1 7 9;" + two + "puts 1+2;feels fond+1;",
            "thing 1 7 9;thing 1 1 1;thing 1 1 1;" + two + "puts 9;feels 9;?",
            "thing 1 7 9;" + two,
            "puts 5;thing 1 7 9;" + two,
            "feels 8;thing 1 3 9;" + two,
            "thing 1 7 9;" + two + "person 1 2 1 1;person 1 2 1 1;puts (1+",
            "thing 1 7 9;" + two + "feels had/7;puts 6;"};
        for (int first = 0; first < texts.length; first++) {
            PackedCases x = new PackedCases();
            int refused = 0;
            for (int at = 0; at < texts.length; at++) {
                String text = texts[(first + at) % texts.length];
                if (Texts.house(x, text) != 0) {
                    refused++;
                    continue;
                }
                PackedCases y = Texts.with(text);
                Snapshot due = Snapshot.of(y).withCount(12, refused);
                CHECK.due("as a new one: " + text, Snapshot.of(x).isLike(due), true);
                CHECK.due("puts: " + text, x.packed(0, 0, 1), y.packed(0, 0, 1));
                CHECK.due("feels: " + text, x.then(0, 2, 1), y.then(0, 2, 1));
            }
        }
        CHECK.due("puts by hand", Texts.with(texts[2]).packed(0, 0, 1), 3);
        CHECK.due("feels by hand", Texts.with(texts[2]).then(0, 2, 1), 5);
    }

    /** Nor does what was asked of an earlier house tell on what is asked of the next one. */
    private static void asksAnew() {
        String much = "thing 1 9 9;".repeat(6) + "person 60 2 1 9 by 1;" + "person 60 9 8 9 by 0;".repeat(6) + "puts fond;";
        String[] texts = {much, "thing 2 3 4;person 60 3 2 5 by 1;person 50 2 1 5 by 0;", "thing 7 1 2;", "person 9 2 1 5;",
            much, "", "thing 1 1 1;thing 2 1 1;person 5 3 1 1 by 1;person 4 2 1 2 by 0;puts 2;feels had;"};
        PackedCases x = new PackedCases();
        for (String text : texts) {
            PackedCases y = new PackedCases();
            Texts.house(x, text);
            Texts.house(y, text);
            CHECK.due("asked of " + text, asked(x).equals(asked(y)), true);
        }
    }

    private static String asked(PackedCases x) {
        StringBuilder row = new StringBuilder();
        for (int person = 0; person < x.count(1); person += 3) {
            for (int thing = -1; thing < x.count(0); thing += 2) {
                row.append(x.best(person, thing)).append(' ');
            }
            row.append(x.trains(person, 5, 3)).append(' ').append(x.load(person, 9)).append(' ');
        }
        row.append(x.balance(6)).append(' ').append(x.toHold()).append(' ').append(x.fonder(0)).append(' ');
        row.append(x.look(0)).append(' ').append(x.look(1)).append(' ').append(x.years(7, 50, 1)).append(' ');
        row.append(x.later(9, 2)).append(' ').append(x.alone(20)).append(' ').append(x.emptiest(20)).append(' ');
        return row.append(x.count(1) > 1 ? x.game(0, 1, 0) : 0).toString();
    }

    /** "or the FAULT (all stays)". */
    private static void allStays() {
        String[] texts = {"x", "thing 0", "puts had", "thing 1 1 1;person 1 2 1 1 by 0", "feels 1;feels"};
        for (int fault = 1; fault <= 5; fault++) {
            PackedCases x = inTheMiddle();
            x.image();
            Snapshot ahead = Snapshot.of(x);
            CHECK.due("fault " + fault, Texts.house(x, texts[fault - 1]), fault);
            CHECK.due("a place is told", x.fault() >= 0, true);
            CHECK.due("one more is refused", x.count(12), 1);
            CHECK.due("and one more", Texts.house(x, "?"), 1);
            CHECK.due("the latest place", x.fault(), 0);
            CHECK.due("all else stays", isLikeButForFault(x, ahead), true);
            CHECK.due("the image stays", x.restore(), true);
            CHECK.due("acts can be undone", x.undo(), 4);
            CHECK.due("mend was the last", x.person(1, 3), 1);
        }
        PackedCases z = Texts.with("thing 1 9 9;person 9 2 1 3 by 1;person 0 9 8 0;puts 5;feels 7;");
        Texts.house(z, "puts 1;feels 1;thing 2 2 2;person 1 2 1 1;?");
        CHECK.due("puts stays", z.packed(0, 0, 1), 5);
        CHECK.due("feels stays", z.then(0, 2, 1), 7);
    }

    /** Two texts were refused since, and the latest of them at its first byte. */
    private static boolean isLikeButForFault(PackedCases x, Snapshot ahead) {
        return Snapshot.of(x).withCount(12, -2).withCount(15, -1).isLike(ahead);
    }

    /** "ACTS, what is SEEN, the image are gone (STATUS stays)." */
    private static void whatIsGone() {
        PackedCases x = inTheMiddle();
        x.image();
        Texts.house(x, "?");
        CHECK.due("acts", x.count(9), 5);
        CHECK.due("seen", x.count(10), 1);
        x.house(0);
        CHECK.due("acts are gone", x.count(9), 0);
        CHECK.due("none is undone", x.undo(), -1);
        CHECK.due("seen is gone", x.count(10), 0);
        CHECK.due("the image is gone", x.restore(), false);
        CHECK.due("status 0 stays", x.count(12), 1);
        CHECK.due("status 1 stays", x.count(13), 1);
        CHECK.due("status 2 stays", x.count(14), 1);
    }

    /** "The place of the latest house()'s FAULT; NONE without." */
    private static void placeOfTheLatestFault() {
        PackedCases x = new PackedCases();
        CHECK.due("without a house", x.fault(), -1);
        Texts.house(x, "?");
        CHECK.due("at 0", x.fault(), 0);
        Texts.house(x, " ".repeat(699) + "?");
        CHECK.due("at 699", x.fault(), 699);
        Texts.house(x, " ".repeat(695) + "thing");
        CHECK.due("at 700", x.fault(), 700);
        CHECK.illegal("a wrong length", () -> x.house(1));
        CHECK.due("at 700 still", x.fault(), 700);
        x.days(1);
        x.undo();
        x.image();
        x.restore();
        blanks(x);
        CHECK.due("at 700 still", x.fault(), 700);
        x.house(20);
        CHECK.due("without one", x.fault(), -1);
        Texts.house(x, " thing");
        CHECK.due("at 6", x.fault(), 6);
        x.house(0);
        CHECK.due("without one", x.fault(), -1);
    }
}
