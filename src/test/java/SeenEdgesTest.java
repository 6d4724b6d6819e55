/** What is SEEN, FONDER, LOOK NEXT (promises 25 to 28): each sentence with a bound, at it and on both sides of it. */
public final class SeenEdgesTest {
    private static final Check CHECK = new Check();
    private static final String HOUSE = "thing 3 5 2;thing 10 2 1;person 12 4 2 6 by 1;person 5 3 1 1 by 0;"
            + "person 20 2 1 9;";

    private SeenEdgesTest() {
    }

    public static void main(String[] args) {
        atMostEight();
        zeroToThirtyDays();
        zeroToNineOfIt();
        refusedAtEight();
        forgotten();
        nothingSeen();
        anotherNumber();
        zeroToNineFond();
        allSeen();
        seenNow();
        seenBehindThirty();
        inTheCaseThatOneHas();
        ofEachThing();
        theFirst();
        lookBehindTen();
        mostUnlike();
        asUnlikeAsMayBe();
        withoutAny();
        CHECK.end();
    }

    /** "SEEN (at most 8)"; "SEEN: how much is. NONE (STATUS 2): there are 8". */
    private static void atMostEight() {
        PackedCases x = Texts.with(HOUSE);
        for (int seen = 1; seen <= 8; seen++) {
            CHECK.due("see", x.see(0, 0, 0, 0), seen);
            CHECK.due("seen", x.count(10), seen);
        }
        CHECK.due("refused", x.count(14), 0);
        for (int more = 1; more <= 3; more++) {
            CHECK.due("a ninth", x.see(0, 0, 0, 0), -1);
            CHECK.due("eight still", x.count(10), 8);
            CHECK.due("refused", x.count(14), more);
        }
    }

    private static void refused(PackedCases x, int days, int many) {
        Snapshot due = Snapshot.of(x).withCount(14, 1);
        CHECK.due("see " + days + " " + many, x.see(0, 0, days, many), -1);
        CHECK.due("one more is refused, nothing else changes", Snapshot.of(x).isLike(due), true);
    }

    /** "behind so many DAYS (0 to 30)"; "not 0 to 30". */
    private static void zeroToThirtyDays() {
        for (int days = 0; days <= 30; days++) {
            CHECK.due("see behind " + days, Texts.with(HOUSE).see(2, 1, days, 0), 1);
        }
        for (int wrong : new int[] {-1, -2, 31, 32, 100, Integer.MAX_VALUE, Integer.MIN_VALUE}) {
            refused(Texts.with(HOUSE), wrong, 0);
        }
    }

    /** "how many of a THING (0 to 9)"; "not 0 to 9". */
    private static void zeroToNineOfIt() {
        for (int many = 0; many <= 9; many++) {
            CHECK.due("see " + many, Texts.with(HOUSE).see(2, 1, 0, many), 1);
        }
        for (int wrong : new int[] {-1, -2, 10, 11, Integer.MAX_VALUE, Integer.MIN_VALUE}) {
            refused(Texts.with(HOUSE), 0, wrong);
            refused(Texts.with(HOUSE), wrong > 9 ? 31 : -1, wrong);
        }
    }

    /** "NoSuchElementException (ahead): no such PERSON, THING": ahead of what is refused. */
    private static void refusedAtEight() {
        PackedCases x = Texts.with(HOUSE);
        for (int seen = 0; seen < 8; seen++) {
            x.see(0, 0, seen, 0);
        }
        CHECK.none("person 3", () -> x.see(3, 0, 0, 0));
        CHECK.none("person -1", () -> x.see(-1, 0, 31, 10));
        CHECK.none("thing 2", () -> x.see(0, 2, 31, 0));
        CHECK.none("thing -1", () -> x.see(0, -1, 0, 10));
        CHECK.due("nothing is refused", x.count(14), 0);
        CHECK.due("a wrong number when there are eight", x.see(0, 0, 31, 10), -1);
        CHECK.due("refused once", x.count(14), 1);
    }

    /** "All that is SEEN is forgotten." */
    private static void forgotten() {
        PackedCases x = Texts.with(HOUSE);
        x.forget();
        CHECK.due("of nothing", x.count(10), 0);
        for (int seen = 0; seen < 9; seen++) {
            x.see(0, 0, 0, 9);
        }
        CHECK.due("it is not so", x.fonder(2), 0);
        Snapshot due = Snapshot.of(x).withCount(10, -8);
        x.forget();
        CHECK.due("that alone changes", Snapshot.of(x).isLike(due), true);
        CHECK.due("nothing is seen", x.fonder(2), 1);
        CHECK.due("the first again", x.see(0, 0, 0, 0), 1);
    }

    private static void fonder(String call, PackedCases x, int many, int first, int without) {
        CHECK.due(call + ": how many", x.fonder(0), many);
        CHECK.due(call + ": the first", x.fonder(1), first);
        CHECK.due(call + ": without", x.fonder(2), without);
    }

    /** Nothing that is SEEN is so by anything: nine other numbers of each. */
    private static void nothingSeen() {
        for (int people = 0; people <= 7; people++) {
            PackedCases x = Texts.with("person 0 2 1 5;".repeat(people));
            fonder(people + " people", x, 9 * people, people == 0 ? -1 : 0, 1);
        }
    }

    /** "FOND (0 to 9, another number than one has)". */
    private static void anotherNumber() {
        for (int fond = 0; fond <= 9; fond++) {
            PackedCases x = Texts.with("person 0 2 1 " + fond + ";");
            fonder("fond " + fond, x, 9, fond == 0 ? 1 : 0, 1);
            PackedCases y = takes(fond, 9);
            for (int many = 0; many <= 9; many++) {
                y.see(0, 0, 1, many);
                // 1's nine numbers change nothing
                if (many == fond) {
                    fonder("as many as now", y, 9, 10, 1);
                } else {
                    fonder("as many as by another number", y, 1, many, 0);
                }
                y.forget();
            }
        }
    }

    /** 0 takes as many as fond on days that are 0 MOD every, for a day, and is liked as before. */
    private static PackedCases takes(int fond, int every) {
        return Texts.with("thing 1 1 9;person 60 " + every + " 1 " + fond + " by 1;person 0 9 1 5;puts fond;feels fond;");
    }

    private static void zeroToNineFond() {
        // 9 of FOND is the most; what would need 10 is by none
        PackedCases x = Texts.with("thing 1 1 9;person 60 9 1 5 by 1;person 0 9 1 5;puts fond-1;feels fond;");
        x.see(0, 0, 1, 8);
        fonder("by 9", x, 1, 9, 0);
        x.forget();
        x.see(0, 0, 1, 9);
        fonder("by 10", x, 0, -1, 0);
        PackedCases y = Texts.with("thing 1 1 9;person 60 9 1 5 by 1;person 0 9 1 5;puts fond+1;feels fond;");
        y.see(0, 0, 1, 1);
        fonder("by 0", y, 1, 0, 0);
        y.forget();
        y.see(0, 0, 1, 0);
        fonder("by -1", y, 0, -1, 0);
    }

    /** "by one of which now all SEEN would be so": each of the eight counts. */
    private static void allSeen() {
        for (int other = 0; other < 8; other++) {
            PackedCases x = takes(3, 9);
            for (int seen = 0; seen < 8; seen++) {
                x.see(0, 0, 1, seen == other ? 6 : 7);
            }
            fonder("7 and 6 at once", x, 0, -1, 0);
        }
        PackedCases x = takes(3, 9);
        for (int seen = 0; seen < 8; seen++) {
            x.see(0, 0, seen % 2, seen % 2 == 0 ? 0 : 7);
        }
        fonder("all eight by 7", x, 1, 7, 0);
        // 0 and 1 would both have to be fonder: no one number does it
        PackedCases y = Texts.with("thing 1 1 9;person 60 9 1 3 by 2;person 60 9 1 3 by 2;person 0 9 1 5;puts fond;");
        y.see(0, 0, 1, 4);
        fonder("0 by 4", y, 1, 4, 0);
        y.see(1, 0, 1, 4);
        fonder("0 and 1 by 4", y, 0, -1, 0);
        y.forget();
        y.see(1, 0, 1, 4);
        fonder("1 by 4", y, 1, 14, 0);
    }

    /** Behind 0 DAYS: what is now, whatever one's FOND. */
    private static void seenNow() {
        PackedCases x = takes(5, 9);
        x.see(0, 0, 0, 0);
        fonder("nothing now", x, 18, 0, 1);
        x.see(0, 0, 0, 1);
        fonder("one now", x, 0, -1, 0);
        PackedCases y = takes(5, 9);
        y.days(1);
        y.see(0, 0, 0, 5);
        fonder("five now", y, 18, 0, 1);
        y.see(0, 0, 1, 0);
        fonder("none behind a day", y, 18, 0, 1);
    }

    /** Behind 30 DAYS, from day 1 on: day 30 is the last of them, on which 0 leaves, and it comes back on day 31. */
    private static void seenBehindThirty() {
        PackedCases x = takes(5, 6);
        x.days(1);
        x.see(0, 0, 30, 8);
        fonder("eight behind 30", x, 1, 8, 0);
        x.see(0, 0, 29, 0);
        fonder("none behind 29", x, 1, 8, 0);
        x.forget();
        x.see(0, 0, 30, 5);
        fonder("five behind 30", x, 9, 10, 1);
        x.forget();
        x.days(1);
        x.see(0, 0, 30, 0);
        fonder("none behind 31", x, 18, 0, 1);
        x.see(0, 0, 29, 4);
        fonder("four behind 30", x, 1, 4, 0);
        x.undo();
        x.see(0, 0, 28, 0);
        fonder("not so, a day earlier", x, 0, -1, 0);
    }

    /** "were in one's CASE": the one that one has then. */
    private static void inTheCaseThatOneHas() {
        PackedCases x = Texts.with("thing 1 1 9;person 9 9 2 5 by 2;person 9 9 2 5;person 0 9 1 5;puts fond;");
        x.swap(0, 1);
        x.see(0, 0, 1, 5);
        fonder("0 has five in 1's case", x, 18, 10, 1);
        x.see(1, 0, 1, 0);
        fonder("1 has none in 0's case", x, 18, 10, 1);
        x.days(1);
        x.swap(0, 1);
        x.forget();
        x.see(1, 0, 0, 5);
        fonder("1 has it now", x, 27, 0, 1);
    }

    /** "how many of a THING .. were in one's CASE": each one takes three of the THING whose USE is FOND, and no other. */
    private static void ofEachThing() {
        StringBuilder text = new StringBuilder();
        for (int at = 0; at < 6; at++) {
            text.append("thing 1 ").append(at + 1).append(" 9;person 60 9 1 ").append(at + 1).append(" by 6;");
        }
        PackedCases x = Texts.with(text.append("person 0 9 1 9;puts (use=fond)*3;feels fond;").toString());
        for (int person = 0; person < 6; person++) {
            for (int thing = 0; thing < 6; thing++) {
                x.forget();
                x.see(person, thing, 1, 3);
                if (thing == person) {
                    fonder("three by now", x, 54, person == 0 ? 10 : 0, 1);
                } else {
                    fonder(person + " has three of " + thing, x, 1, 10 * person + thing + 1, 0);
                }
            }
        }
    }

    /** "the first (10 by who, and FOND)". */
    private static void theFirst() {
        for (int who = 0; who < 6; who++) {
            for (int many = 0; many <= 9; many++) {
                StringBuilder text = new StringBuilder("thing 1 1 9;");
                for (int person = 0; person < 7; person++) {
                    text.append("person 60 9 1 ").append(many == 5 ? 4 : 5);
                    text.append(person == who ? " by 6;" : ";");
                }
                PackedCases x = Texts.with(text.append("puts fond;feels fond;").toString());
                x.see(who, 0, 1, many);
                fonder(who + " by " + many, x, 1, 10 * who + many, 0);
            }
        }
        // 5 comes back on day 9 just ahead of 6, who leaves then
        PackedCases x = Texts.with("person 0 2 1 5;".repeat(5) + "thing 1 1 9;person 0 8 1 5;person 60 9 1 5 by 5;"
                + "puts fond;feels fond;");
        x.see(6, 0, 10, 9);
        fonder("the last by 9", x, 1, 69, 0);
        x.see(6, 0, 9, 0);
        fonder("a day earlier there is none", x, 1, 69, 0);
    }

    /** "STOCK behind 10 DAYS": not behind 9, not behind 11. */
    private static void lookBehindTen() {
        // out with fond pieces behind days 9 and 11, not behind 10
        PackedCases x = takes(5, 2);
        CHECK.due("behind 10 all is in the cupboard", x.look(1), 1);
        CHECK.due("thing 0", x.look(0), 0);
        // out behind 10 alone of 3 .. 18
        PackedCases y = Texts.with("thing 1 1 9;person 0 8 1 5;person 60 9 1 5 by 0;puts fond;feels fond;");
        CHECK.due("9 to 0, as fond is 0 to 9", y.look(1), 10);
        y.days(1);
        CHECK.due("behind 11", y.look(1), 1);
        PackedCases z = Texts.with("thing 1 1 9;person 0 8 1 5;person 60 9 1 5 by 0;puts fond;feels fond;");
        z.days(2);
        CHECK.due("behind 12", z.look(1), 1);
    }

    /** "the THING (of like ones the least) .. most unlike: how many unlike numbers". */
    private static void mostUnlike() {
        String people = "person 0 8 1 5;person 60 9 1 5 by 0;feels fond;";
        PackedCases x = Texts.with("thing 1 1 9;thing 1 1 9;" + people + "puts fond;");
        CHECK.due("of like ones the least", x.look(0), 0);
        CHECK.due("ten", x.look(1), 10);
        // of the second thing by ten numbers, of the first by two, of the third by ten
        PackedCases y = Texts.with("thing 1 1 9;thing 1 2 9;thing 1 3 9;" + people + "puts (use=1)*(fond<5)+(1<use)*fond;");
        CHECK.due("the most", y.look(0), 1);
        CHECK.due("how many", y.look(1), 10);
        // unlike numbers, not unlike ones: 0, 1, 2 by thirds
        PackedCases z = Texts.with("thing 1 1 9;thing 1 2 9;" + people + "puts (use=1)*(fond/4)+(use=2)*(fond=3);");
        CHECK.due("three of 0", z.look(0), 0);
        CHECK.due("three", z.look(1), 3);
        PackedCases w = Texts.with("thing 1 2 9;thing 1 1 9;" + people + "puts (use=1)*(fond/4)+(use=2)*(fond=3);");
        CHECK.due("three of 1", w.look(0), 1);
        CHECK.due("three", w.look(1), 3);
        // by 4, 6 and 7 of 1, and by all of 0, who takes nothing: 1 is one who has 5
        PackedCases v = Texts.with("thing 1 1 9;thing 1 2 9;" + people + "puts (use=1)*(fond/4)+(use=2)*fond;");
        CHECK.due("ten of 1", v.look(1), 10);
        v.see(1, 0, 10, 1);
        CHECK.due("by these alone: which", v.look(0), 1);
        CHECK.due("by these alone: 4, 5, 6, 7", v.look(1), 4);
    }

    /** Of one from 0 to 9, of another one from 9 to 0: nine more or fewer of STOCK, and as many as it is. */
    private static void asUnlikeAsMayBe() {
        PackedCases x = Texts.with("thing 1 1 9;person 60 9 8 0 by 6;person 60 9 8 9 by 6;"
                + "person 60 9 8 5 by 6;".repeat(4) + "person 0 9 8 5;puts fond;feels fond;");
        for (int bought = 0; bought < 10; bought++) {
            x.buy(0, 9);
        }
        CHECK.due("63 couples", x.fonder(0), 63);
        CHECK.due("19 numbers", x.look(1), 19);
        CHECK.due("of the one thing", x.look(0), 0);
    }

    /** "none without any": without a couple, and without THINGS. */
    private static void withoutAny() {
        PackedCases x = takes(5, 9);
        x.see(0, 0, 0, 1);
        CHECK.due("no couple: which", x.look(0), -1);
        CHECK.due("no couple: how many", x.look(1), 0);
        x.forget();
        x.see(0, 0, 1, 7);
        CHECK.due("one couple: which", x.look(0), 0);
        CHECK.due("one couple: how many", x.look(1), 1);
        PackedCases y = new PackedCases();
        CHECK.due("nobody: which", y.look(0), -1);
        CHECK.due("nobody: how many", y.look(1), 0);
        PackedCases z = Texts.with("thing 1 1 1;");
        CHECK.due("nobody, but a thing: which", z.look(0), -1);
        CHECK.due("nobody, but a thing: how many", z.look(1), 0);
        PackedCases w = Texts.with("person 0 2 1 0;");
        CHECK.due("no things: which", w.look(0), -1);
        CHECK.due("no things: how many", w.look(1), 0);
    }
}
