import java.util.Random;

/**
 * Houses of seven people and six things ("at most 6", "at most 7"), whose FOND and STOCK look like people's numbers:
 * who reads a person or a thing too many or too few meets a number that would count. Answers against the Oracle.
 */
public final class FullHouseTest {
    private static final Check CHECK = new Check();
    private static final int HOUSES = 150;
    private static final int PEOPLE = 7;
    private static final int THINGS = 6;
    private static final int[] DAYS = {0, 1, 2, 5, 11};

    private final Random random;
    private final String house;
    private final PackedCases x = new PackedCases();
    private final Oracle oracle = new Oracle();

    private FullHouseTest(int seed) {
        random = new Random(seed);
        house = text();
        for (int[] five : Texts.fives(house)) {
            x.feed(five[0], five[1], five[2], five[3], five[4]);
            oracle.feed(five[0], five[1], five[2], five[3], five[4]);
        }
        due("house", x.house(house.length()), oracle.house(house.length()));
    }

    public static void main(String[] args) {
        theLastOfAll();
        allAnew();
        gainsOfOnesOwn();
        for (int seed = 0; seed < HOUSES; seed++) {
            FullHouseTest full = new FullHouseTest(seed);
            full.act();
            full.askNow();
            full.askPackers();
            full.askAll();
        }
        CHECK.end();
    }

    /** By hand: thing 5 and person 6 are the last that there may be, and count as any other. */
    private static void theLastOfAll() {
        PackedCases x = Texts.with("thing 1 0 0;".repeat(5) + "thing 2 9 9;"
                + "person 0 9 1 0;".repeat(6) + "person 5 2 1 0 by 5;puts 9;");
        // on day 0 all leave, 5 ahead of 6, for whom nobody packs then; on day 2 5 is in again, and packs
        CHECK.due("day 0", x.days(1), 1);
        CHECK.due("all are out", x.later(0, 0), 127);
        CHECK.due("6 has nothing", x.in(6, 5), 0);
        CHECK.due("day 2", x.days(2), 3);
        CHECK.due("6 alone is out", x.later(0, 0), 64);
        CHECK.due("two of 5, 2 each, in a case that holds 5", x.in(6, 5), 2);
        CHECK.due("use", x.then(6, 0, 2), 18);
        CHECK.due("heaviest", x.later(0, 3), 6);
        CHECK.due("most wanted", x.count(8), 5);
        CHECK.due("fondest of 5", x.near(5, 0), 6);
        CHECK.due("without 5", x.without(5, 5, 2), 2);
    }

    /** "are a HOUSE, all anew": what the last one's case had of the last thing is no more. */
    private static void allAnew() {
        String house = "thing 1 9 9;".repeat(THINGS) + "person 60 3 1 9;".repeat(6)
                + "person 60 2 1 9 by 5;puts 1+day;";
        PackedCases x = Texts.with(house);
        // on day 2 5 is in and packs for 6
        CHECK.due("three days", x.days(3), 3);
        CHECK.due("6 has of the last thing", x.in(6, 5), 3);
        for (int again = 0; again < 2; again++) {
            CHECK.due("a house anew", Texts.house(x, house), 0);
            for (int person = 0; person < PEOPLE; person++) {
                for (int thing = 0; thing < THINGS; thing++) {
                    CHECK.due(person + " has nothing of " + thing, x.in(person, thing), 0);
                }
            }
            CHECK.due("in all as told", x.count(7), 54);
            CHECK.due("most wanted", x.count(8), -1);
            CHECK.due("the day", x.count(2), 0);
        }
    }

    /** "the CASES which those have for whom one packs": 6's is empty, so 1 is cross, though 1's own has much. */
    private static void gainsOfOnesOwn() {
        PackedCases x = Texts.with("thing 1 9 9;person 0 9 1 0;person 60 4 1 9 by 2;"
                + "person 0 9 1 0;".repeat(4) + "person 0 4 1 1 by 1;puts fond;feels fond;");
        CHECK.due("what 1 has behind 5 days", x.then(1, 5, 2), 81);
        CHECK.due("one couple rests", x.game(1, 2, 0), 1);
        CHECK.due("1 is cross, 2 is not", x.game(1, 2, 1), 10);
        CHECK.due("asked the other way round", x.game(2, 1, 1), 1);
    }

    private String text() {
        StringBuilder text = new StringBuilder();
        for (int thing = 0; thing < THINGS; thing++) {
            add(text, "thing", 1 + random.nextInt(4), random.nextInt(10), random.nextInt(9));
            text.append(';');
        }
        for (int person = 0; person < PEOPLE; person++) {
            int every = 2 + random.nextInt(4);
            add(text, "person", 5 + random.nextInt(30), every, 1 + random.nextInt(every - 1), random.nextInt(8));
            int packer = random.nextInt(PEOPLE);
            if (packer != person) {
                add(text, " by", packer);
            }
            text.append(';');
        }
        if (random.nextBoolean()) {
            text.append(random.nextBoolean() ? "puts fond/2;" : "puts 1+(use<fond)*stock/2;");
        }
        return text.append(random.nextInt(3) == 0 ? "feels (fond+had)/2;" : "").toString();
    }

    private static void add(StringBuilder text, String word, int... numbers) {
        text.append(word);
        for (int number : numbers) {
            text.append(' ').append(number);
        }
    }

    private void due(String call, long got, long want) {
        CHECK.due(call + " of " + house, got, want);
    }

    private void act() {
        for (int swaps = random.nextInt(5); swaps > 0; swaps--) {
            int person = random.nextInt(PEOPLE);
            int other = random.nextInt(PEOPLE);
            due("swap", x.swap(person, other) ? 1 : 0, oracle.swap(person, other) ? 1 : 0);
        }
        int days = random.nextInt(8);
        due("days", x.days(days), oracle.days(days));
    }

    private void askNow() {
        for (int what = 0; what <= 14; what++) {
            due("count " + what, x.count(what), oracle.count(what));
        }
        for (int person = 0; person < PEOPLE; person++) {
            for (int what = 3; what <= 9; what++) {
                due("person " + person + " " + what, x.person(person, what), oracle.person(person, what));
            }
            due("fondest " + person, x.near(person, 0), oracle.near(person, 0));
            due("who has " + person, x.near(person, 1), oracle.near(person, 1));
            due("best " + person, x.best(person, -1), oracle.best(person, -1));
            due("best of 5 " + person, x.best(person, 5), oracle.best(person, 5));
        }
        due("toHold", x.toHold(), oracle.toHold());
        int weight = 1 + random.nextInt(20);
        due("balance " + weight, x.balance(weight), oracle.balance(weight));
    }

    private void askPackers() {
        for (int person = 0; person < PEOPLE; person++) {
            int days = DAYS[random.nextInt(DAYS.length)];
            for (int thing = 0; thing < THINGS; thing++) {
                due("without " + person + " " + thing + " " + days, x.without(person, thing, days),
                        oracle.without(person, thing, days));
            }
            for (int other = 0; other < PEOPLE; other++) {
                if (other != person) {
                    due("game " + person + " " + other, x.game(person, other, 0), oracle.game(person, other, 0));
                    due("first of game " + person + " " + other, x.game(person, other, 1),
                            oracle.game(person, other, 1));
                }
            }
        }
    }

    private void askAll() {
        for (int days : DAYS) {
            for (int what = 0; what <= 3; what++) {
                due("later " + days + " " + what, x.later(days, what), oracle.later(days, what));
            }
            for (int what = 0; what <= 2; what++) {
                due("years " + days + " " + what, x.years(days, 9 * days, what), oracle.years(days, 9 * days, what));
            }
        }
        due("alone", x.alone(100), oracle.alone(100));
        due("emptiest", x.emptiest(100), oracle.emptiest(100));
        due("fonder", x.fonder(0), oracle.fonder(0));
        due("look", x.look(0), oracle.look(0));
        due("look, how many", x.look(1), oracle.look(1));
    }
}
