import java.util.NoSuchElementException;

/** A boarding house whose people go away with cases that others pack. */
public final class PackedCases {

    public static final int NONE = -1;

    private static final int MOST_BYTES = 700;
    private static final int MOST_THINGS = 6;
    private static final int MOST_PEOPLE = 7;
    private static final int MOST_HOLDS = 60;
    private static final int MOST_FOND = 9;
    private static final int MOST_PUT = 9;
    private static final int MOST_STOCK = 99;
    private static final int MOST_DAY = 9999;
    private static final int MOST_ACTS = 40;
    private static final int MOST_SEEN = 8;
    private static final int FURTHEST = 100;
    private static final int LOOK_DAYS = 10;
    private static final int GAME_DAYS = 5;
    private static final int CROSS_GAIN = 4;

    private static final int REFUSED_TEXTS = 0;
    private static final int REFUSED_ACTS = 1;
    private static final int REFUSED_SEEN = 2;

    private final byte[] tape = new byte[MOST_BYTES];
    private final int[] refused = new int[3];
    private House told = new House();
    private House draft = new House();
    private final Reader reader = new Reader(draft);
    private final State now = new State();
    private final Acts acts = new Acts();
    private final Seen seen = new Seen();
    private final State imageState = new State();
    private final Acts imageActs = new Acts();
    private final Seen imageSeen = new Seen();
    private final Walk walk = new Walk(told);
    private final Packing packing = new Packing(told, now);
    private final Guess guess = new Guess(told);
    private final Game couples = new Game();
    private int taped = 0;
    private int faultPlace = NONE;
    private boolean hasImage = false;

    public PackedCases() {
    }

    // ---- the text

    public int feed(int a, int b, int c, int d, int e) {
        if (taped + 20 > MOST_BYTES) {
            return NONE;
        }
        tapeNumber(a);
        tapeNumber(b);
        tapeNumber(c);
        tapeNumber(d);
        tapeNumber(e);
        return taped;
    }

    private void tapeNumber(int number) {
        for (int shift = 24; shift >= 0; shift -= 8) {
            tape[taped] = (byte) (number >>> shift);
            taped++;
        }
    }

    public int house(int n) throws IllegalArgumentException {
        needBetween(n, 0, taped);
        taped = 0;
        int fault = reader.read(tape, n, draft);
        if (fault != 0) {
            faultPlace = reader.place();
            refused[REFUSED_TEXTS]++;
            return fault;
        }
        faultPlace = NONE;
        moveIn();
        return 0;
    }

    private void moveIn() {
        House former = told;
        told = draft;
        draft = former;
        now.begin(told);
        acts.clear();
        seen.clear();
        hasImage = false;
    }

    public int fault() {
        return faultPlace;
    }

    // ---- what is now

    public int count(int what) throws NoSuchElementException {
        needWhat(what, 14);
        switch (what) {
            case 0: return told.things;
            case 1: return told.people;
            case 2: return now.day();
            case 3: return now.whoIsIn(told.people);
            case 4: return now.mixed(told.people);
            case 5: return now.toRight(told.people);
            case 6: return now.firstToRight(told.people);
            case 7: return told.weightInAll(now);
            case 8: return told.mostWanted(now);
            case 9: return acts.kept();
            case 10: return seen.many();
            case 11: return taped;
            default: return refused[what - 12];
        }
    }

    public int thing(int thing, int what) throws NoSuchElementException {
        needThing(thing);
        needWhat(what, 2);
        switch (what) {
            case 0: return told.weight[thing];
            case 1: return told.use[thing];
            default: return now.stock(thing);
        }
    }

    public int person(int person, int what) throws NoSuchElementException {
        needPerson(person);
        needWhat(what, 9);
        switch (what) {
            case 0: return told.holds[person];
            case 1: return told.every[person];
            case 2: return told.away[person];
            case 3: return now.fond(person);
            case 4: return now.packerOf(person);
            case 5: return now.caseOf(person);
            case 6: return now.out(person);
            case 7: return now.packsFor(person, told.people);
            case 8: return now.ring(person, told.people);
            default: return now.chain(person, told.people);
        }
    }

    public int in(int person, int thing) throws NoSuchElementException {
        needPerson(person);
        needThing(thing);
        return now.pieces(person, thing);
    }

    public int near(int person, int what) throws NoSuchElementException {
        needPerson(person);
        needWhat(what, 1);
        return what == 0 ? now.fondest(person, told.people) : now.whoHas(person, told.people);
    }

    // ---- acts

    public int days(int many) {
        if (many < 1 || many > 20 || now.day() + many > MOST_DAY) {
            return refuse(REFUSED_ACTS);
        }
        acts.keep(now);
        now.copyFrom(ahead(many));
        return now.day();
    }

    public boolean swap(int person, int other) throws NoSuchElementException {
        needPerson(person);
        needPerson(other);
        if (person == other) {
            refuse(REFUSED_ACTS);
            return false;
        }
        acts.keep(now);
        now.changeCases(person, other);
        return true;
    }

    public int buy(int thing, int many) throws NoSuchElementException {
        needThing(thing);
        if (many < 1 || many > 9 || now.stock(thing) + many > MOST_STOCK) {
            return refuse(REFUSED_ACTS);
        }
        acts.keep(now);
        now.addStock(thing, many);
        return now.stock(thing);
    }

    public int packer(int person, int other) throws NoSuchElementException {
        needPerson(person);
        if (other != NONE) {
            needPerson(other);
        }
        int former = now.packerOf(person);
        if (other == former || other == person) {
            refuse(REFUSED_ACTS);
            return -2;
        }
        acts.keep(now);
        now.setPacker(person, other);
        return former;
    }

    public int mend(int person, int fond) throws NoSuchElementException {
        needPerson(person);
        if (fond < 0 || fond > MOST_FOND) {
            return refuse(REFUSED_ACTS);
        }
        int former = now.fond(person);
        acts.keep(now);
        now.setFond(person, fond);
        return former;
    }

    public int undo() {
        return acts.takeBack(now) ? acts.kept() : NONE;
    }

    public void image() {
        imageState.copyFrom(now);
        imageActs.copyFrom(acts);
        imageSeen.copyFrom(seen);
        hasImage = true;
    }

    public boolean restore() {
        if (!hasImage) {
            return false;
        }
        now.copyFrom(imageState);
        acts.copyFrom(imageActs);
        seen.copyFrom(imageSeen);
        return true;
    }

    // ---- behind so many days

    public int then(int person, int days, int what) throws NoSuchElementException, IllegalArgumentException {
        needPerson(person);
        needWhat(what, 3);
        needBetween(days, 0, FURTHEST);
        State later = ahead(days);
        switch (what) {
            case 0: return later.isIn(person) ? 1 : 0;
            case 1: return later.fond(person);
            case 2: return told.useWith(later, person);
            default: return told.weightWith(later, person);
        }
    }

    public int packed(int person, int thing, int days) throws NoSuchElementException, IllegalArgumentException {
        needPerson(person);
        needThing(thing);
        needBetween(days, 0, FURTHEST);
        return ahead(days).pieces(person, thing);
    }

    public int cupboard(int thing, int days) throws NoSuchElementException, IllegalArgumentException {
        needThing(thing);
        needBetween(days, 0, FURTHEST);
        return ahead(days).stock(thing);
    }

    public int later(int days, int what) throws NoSuchElementException, IllegalArgumentException {
        needWhat(what, 3);
        needBetween(days, 0, FURTHEST);
        State later = ahead(days);
        switch (what) {
            case 0: return later.whoIsOut(told.people);
            case 1: return later.crossest(told.people);
            case 2: return walk.emptyCases();
            default: return told.heaviest(later);
        }
    }

    public int next(int person) throws NoSuchElementException {
        needPerson(person);
        boolean wasIn = now.isIn(person);
        walk.begin(told, now);
        for (int behind = 1; behind <= FURTHEST; behind++) {
            walk.passDay();
            if (walk.state.isIn(person) != wasIn) {
                return behind;
            }
        }
        return NONE;
    }

    public int lacking(int thing) throws NoSuchElementException {
        needThing(thing);
        walk.begin(told, now);
        for (int behind = 0; behind <= FURTHEST; behind++) {
            if (walk.state.stock(thing) == 0) {
                return behind;
            }
            walk.passDay();
        }
        return NONE;
    }

    public int emptiest(int days) throws IllegalArgumentException {
        needBetween(days, 1, FURTHEST);
        int most = NONE;
        int first = NONE;
        walk.begin(told, now);
        for (int behind = 1; behind <= days; behind++) {
            walk.passDay();
            int out = Integer.bitCount(walk.state.whoIsOut(told.people));
            if (out > most) {
                most = out;
                first = behind;
            }
        }
        return first;
    }

    public int trips(int person, int days, int what) throws NoSuchElementException, IllegalArgumentException {
        needPerson(person);
        needWhat(what, 1);
        needBetween(days, 0, FURTHEST);
        if (what == 0) {
            ahead(days);
            return walk.tripsOf(person);
        }
        return hadBest(person, days);
    }

    private int hadBest(int person, int days) {
        int most = NONE;
        int first = NONE;
        walk.begin(told, now);
        for (int behind = 0; behind <= days; behind++) {
            int had = told.useWith(walk.state, person);
            if (had > most) {
                most = had;
                first = behind;
            }
            walk.passDay();
        }
        return first;
    }

    public int together(int person, int other, int days) throws NoSuchElementException, IllegalArgumentException {
        needPerson(person);
        needPerson(other);
        needBetween(days, 1, FURTHEST);
        return daysWithNoneOut(1 << person | 1 << other, days);
    }

    private int daysWithNoneOut(int people, int days) {
        int many = 0;
        walk.begin(told, now);
        for (int behind = 1; behind <= days; behind++) {
            walk.passDay();
            if ((walk.state.whoIsOut(told.people) & people) == 0) {
                many++;
            }
        }
        return many;
    }

    public int awayBoth(int person, int other, int days) throws NoSuchElementException, IllegalArgumentException {
        needPerson(person);
        needPerson(other);
        needBetween(days, 1, FURTHEST);
        return daysWithNoneIn(1 << person | 1 << other, days);
    }

    public int alone(int days) throws IllegalArgumentException {
        needBetween(days, 1, FURTHEST);
        return daysWithNoneIn((1 << told.people) - 1, days);
    }

    private int daysWithNoneIn(int people, int days) {
        int many = 0;
        walk.begin(told, now);
        for (int behind = 1; behind <= days; behind++) {
            walk.passDay();
            if ((walk.state.whoIsIn(told.people) & people) == 0) {
                many++;
            }
        }
        return many;
    }

    public int least(int thing, int days) throws NoSuchElementException, IllegalArgumentException {
        needThing(thing);
        needBetween(days, 0, FURTHEST);
        int fewest = now.stock(thing);
        walk.begin(told, now);
        for (int behind = 1; behind <= days; behind++) {
            walk.passDay();
            fewest = Math.min(fewest, walk.state.stock(thing));
        }
        return fewest;
    }

    public int load(int person, int days) throws NoSuchElementException, IllegalArgumentException {
        needPerson(person);
        needBetween(days, 0, FURTHEST);
        int most = told.weightWith(now, person);
        walk.begin(told, now);
        for (int behind = 1; behind <= days; behind++) {
            walk.passDay();
            most = Math.max(most, told.weightWith(walk.state, person));
        }
        return most;
    }

    public int without(int person, int thing, int days) throws NoSuchElementException, IllegalArgumentException {
        needPerson(person);
        needThing(thing);
        needBetween(days, 0, FURTHEST);
        int asItIs = ahead(days).stock(thing);
        walk.begin(told, now);
        walk.state.dismiss(person, told.people);
        walk.pass(days);
        return walk.state.stock(thing) - asItIs;
    }

    // ---- how to pack

    public int best(int person, int thing) throws NoSuchElementException {
        needPerson(person);
        if (thing != NONE) {
            needThing(thing);
        }
        int holds = told.holds[now.caseOf(person)];
        packing.fill(told, now, holds);
        return thing == NONE ? packing.mostUse(holds) : packing.manyOf(thing, holds);
    }

    public int toHold() {
        int weight = 0;
        for (int thing = 0; thing < told.things; thing++) {
            if (told.use[thing] != 0) {
                weight += told.weight[thing] * now.stock(thing);
            }
        }
        return weight;
    }

    public int balance(int weight) throws IllegalArgumentException {
        needBetween(weight, 1, 99);
        return packing.fewestToBalance(told, now, weight);
    }

    // ---- what is seen

    public int see(int person, int thing, int days, int many) throws NoSuchElementException {
        needPerson(person);
        needThing(thing);
        boolean isTold = days >= 0 && days <= 30 && many >= 0 && many <= 9;
        if (!isTold || !seen.add(person, thing, days, many)) {
            return refuse(REFUSED_SEEN);
        }
        return seen.many();
    }

    public void forget() {
        seen.clear();
    }

    public int fonder(int what) throws NoSuchElementException {
        needWhat(what, 2);
        if (what == 2) {
            return guess.isSo(told, now, seen) ? 1 : 0;
        }
        guess.findAll(told, now, seen);
        return what == 0 ? guess.many() : guess.first();
    }

    public int look(int what) throws NoSuchElementException {
        needWhat(what, 1);
        guess.findAll(told, now, seen);
        guess.compareStocks(told, now);
        return what == 0 ? guess.mostUnlike() : guess.unlikeNumbers();
    }

    // ---- chance

    public int trains(int person, int days, int tenths) throws NoSuchElementException, IllegalArgumentException {
        needPerson(person);
        needBetween(days, 1, 5);
        needBetween(tenths, 0, 10);
        return walk.waysIn(told, now, person, days, tenths);
    }

    public int game(int person, int other, int what) throws NoSuchElementException, IllegalArgumentException {
        needPerson(person);
        needPerson(other);
        needWhat(what, 1);
        if (person == other) {
            throw new IllegalArgumentException("a game is of two");
        }
        if (now.packsFor(person, told.people) == 0 || now.packsFor(other, told.people) == 0) {
            return NONE;
        }
        couples.play(told, now, walk, person, other);
        return what == 0 ? couples.resting() : couples.firstResting();
    }

    public int years(int seed, int n, int what) throws NoSuchElementException, IllegalArgumentException {
        needWhat(what, 2);
        needBetween(n, 0, FURTHEST);
        walk.begin(told, now);
        walk.passYears(seed, n);
        switch (what) {
            case 0: return walk.allTrips();
            case 1: return walk.state.allFond(told.people);
            default: return walk.state.mixed(told.people);
        }
    }

    // ---- what calls need

    private State ahead(int days) {
        walk.begin(told, now);
        walk.pass(days);
        return walk.state;
    }

    private int refuse(int status) {
        refused[status]++;
        return NONE;
    }

    private void needThing(int thing) {
        if (thing < 0 || thing >= told.things) {
            throw new NoSuchElementException("no such thing");
        }
    }

    private void needPerson(int person) {
        if (person < 0 || person >= told.people) {
            throw new NoSuchElementException("no such person");
        }
    }

    private static void needWhat(int what, int last) {
        if (what < 0 || what > last) {
            throw new NoSuchElementException("no such what");
        }
    }

    private static void needBetween(int number, int first, int last) {
        if (number < first || number > last) {
            throw new IllegalArgumentException("a number out of its bounds");
        }
    }

    /** What a text tells, and sums over it; a day never changes it. */
    static final class House {
        final int[] weight = new int[MOST_THINGS];
        final int[] use = new int[MOST_THINGS];
        final int[] stock = new int[MOST_THINGS];
        final int[] holds = new int[MOST_PEOPLE];
        final int[] every = new int[MOST_PEOPLE];
        final int[] away = new int[MOST_PEOPLE];
        final int[] fond = new int[MOST_PEOPLE];
        final int[] by = new int[MOST_PEOPLE];
        final Rule puts = new Rule();
        final Rule feels = new Rule();
        int things = 0;
        int people = 0;

        void clear() {
            things = 0;
            people = 0;
            puts.clear();
            feels.clear();
        }

        int useWith(State state, int person) {
            int all = 0;
            for (int thing = 0; thing < things; thing++) {
                all += use[thing] * state.pieces(person, thing);
            }
            return all;
        }

        int weightWith(State state, int person) {
            int all = 0;
            for (int thing = 0; thing < things; thing++) {
                all += weight[thing] * state.pieces(person, thing);
            }
            return all;
        }

        int weightInAll(State state) {
            int all = 0;
            for (int thing = 0; thing < things; thing++) {
                all += weight[thing] * state.stock(thing);
            }
            for (int person = 0; person < people; person++) {
                all += weightWith(state, person);
            }
            return all;
        }

        int mostWanted(State state) {
            int most = 0;
            int first = NONE;
            for (int thing = 0; thing < things; thing++) {
                int pieces = 0;
                for (int person = 0; person < people; person++) {
                    pieces += state.pieces(person, thing);
                }
                if (pieces > most) {
                    most = pieces;
                    first = thing;
                }
            }
            return first;
        }

        int heaviest(State state) {
            int most = 0;
            int first = NONE;
            for (int person = 0; person < people; person++) {
                int weighs = weightWith(state, person);
                if (weighs > most) {
                    most = weighs;
                    first = person;
                }
            }
            return first;
        }
    }

    /** An EXPR as steps on a pile: a number, a value, or what joins the uppermost ones. */
    static final class Rule {
        static final int FOND = -1;
        static final int DAY = -2;
        static final int USE = -3;
        static final int WEIGHT = -4;
        static final int STOCK = -5;
        static final int ROOM = -6;
        static final int HAD = -7;
        static final int AWAY = -8;
        static final int VALUES = 8;
        static final int NOT = -9;
        static final int OR = -10;
        static final int AND = -11;
        static final int LESS = -12;
        static final int LIKE = -13;
        static final int PLUS = -14;
        static final int MINUS = -15;
        static final int TIMES = -16;
        static final int OVER = -17;
        // six EXPRs within one another leave at most five open steps each
        private static final int HIGHEST_PILE = 64;

        private final int[] steps = new int[MOST_BYTES];
        private final int[] pile = new int[HIGHEST_PILE];
        private int length = 0;
        private boolean isTold = false;

        void clear() {
            length = 0;
            isTold = false;
        }

        void open() {
            isTold = true;
        }

        boolean told() {
            return isTold;
        }

        void add(int step) {
            if (length < MOST_BYTES) {
                steps[length] = step;
                length++;
            }
        }

        /** The values stand at their step's place: FOND at 0, DAY at 1 and so on. */
        int answer(int[] values) {
            int top = 0;
            for (int at = 0; at < length; at++) {
                int step = steps[at];
                if (step >= -VALUES) {
                    if (top < HIGHEST_PILE) {
                        pile[top] = step >= 0 ? step : values[-1 - step];
                        top++;
                    }
                } else if (step == NOT) {
                    if (top > 0) {
                        pile[top - 1] = pile[top - 1] == 0 ? 1 : 0;
                    }
                } else if (top > 1) {
                    top--;
                    pile[top - 1] = join(step, pile[top - 1], pile[top]);
                }
            }
            return top > 0 ? pile[0] : 0;
        }

        private static int join(int step, int a, int b) {
            switch (step) {
                case OR: return a != 0 || b != 0 ? 1 : 0;
                case AND: return a != 0 && b != 0 ? 1 : 0;
                case LESS: return a < b ? 1 : 0;
                case LIKE: return a == b ? 1 : 0;
                case PLUS: return a + b;
                case MINUS: return a - b;
                case TIMES: return a * b;
                default: return b == 0 ? 0 : a / b;
            }
        }
    }

    /** Cuts the tape into TOKENS; the one at hand is looked at, then passed. */
    static final class Tokens {
        static final int END = 0;
        static final int WORD = 1;
        static final int NUMBER = 2;
        static final int SIGN = 3;
        static final int BAD = 4;
        private static final int MOST_DIGITS = 4;

        private byte[] text = new byte[0];
        private int length = 0;
        private int start = 0;
        private int end = 0;
        private int kind = END;

        void open(byte[] bytes, int many) {
            text = bytes;
            length = Math.min(many, bytes.length);
            end = 0;
            pass();
        }

        int start() {
            return start;
        }

        boolean isAtEnd() {
            return kind == END;
        }

        boolean isNumber() {
            return kind == NUMBER;
        }

        boolean isAnyWord() {
            return kind == WORD;
        }

        boolean isSign(char sign) {
            return kind == SIGN && text[start] == sign;
        }

        boolean isWord(String word) {
            if (kind != WORD || end - start != word.length()) {
                return false;
            }
            for (int at = 0; at < word.length(); at++) {
                if (text[start + at] != word.charAt(at)) {
                    return false;
                }
            }
            return true;
        }

        boolean isTooLong() {
            return end - start > MOST_DIGITS;
        }

        int number() {
            int value = 0;
            for (int at = start; at < end && at < start + MOST_DIGITS; at++) {
                value = value * 10 + (text[at] - '0');
            }
            return value;
        }

        void pass() {
            start = end;
            while (start < length && (text[start] == ' ' || text[start] == '\n')) {
                start++;
            }
            end = start;
            if (start >= length) {
                kind = END;
                return;
            }
            kind = kindOf(text[start]);
            end++;
            while (end < length && kind <= NUMBER && kindOf(text[end]) == kind) {
                end++;
            }
        }

        private static int kindOf(byte sign) {
            if (sign >= 'a' && sign <= 'z') {
                return WORD;
            }
            if (sign >= '0' && sign <= '9') {
                return NUMBER;
            }
            switch (sign) {
                case ';': case '(': case ')': case '+': case '-': case '*': case '/': case '<': case '=':
                    return SIGN;
                default:
                    return BAD;
            }
        }
    }

    /** Reads a HOUSE; behind the first FAULT all its methods do nothing. */
    static final class Reader {
        private static final int CANNOT_STAND = 1;
        private static final int TOO_MUCH = 2;
        private static final int NO_VALUE = 3;
        private static final int ONESELF = 4;
        private static final int TOLD_TWICE = 5;
        private static final int MOST_WITHIN = 6;
        private static final int MOST_NOTS = 6;

        private final Tokens tokens = new Tokens();
        private House into;
        private Rule rule;
        private boolean isPuts = false;
        private int fault = 0;
        private int faultAt = NONE;

        Reader(House first) {
            into = first;
            rule = first.puts;
        }

        int place() {
            return faultAt;
        }

        int read(byte[] text, int length, House draft) {
            into = draft;
            into.clear();
            fault = 0;
            faultAt = NONE;
            tokens.open(text, length);
            for (int line = 0; line <= MOST_BYTES && isGoing() && !tokens.isAtEnd(); line++) {
                readLine();
            }
            return fault;
        }

        private boolean isGoing() {
            return fault == 0;
        }

        private void stop(int kind) {
            if (isGoing()) {
                fault = kind;
                faultAt = tokens.start();
            }
        }

        private void readLine() {
            if (tokens.isWord("thing")) {
                readThing();
            } else if (tokens.isWord("person")) {
                readPerson();
            } else if (tokens.isWord("puts")) {
                readRule(into.puts, true);
            } else if (tokens.isWord("feels")) {
                readRule(into.feels, false);
            } else {
                stop(CANNOT_STAND);
            }
            readSign(';');
        }

        private void readThing() {
            int thing = into.things;
            if (thing >= MOST_THINGS) {
                stop(TOO_MUCH);
                return;
            }
            tokens.pass();
            into.weight[thing] = readNumber(1, 20);
            into.use[thing] = readNumber(0, 9);
            into.stock[thing] = readNumber(0, 9);
            into.things++;
        }

        private void readPerson() {
            int person = into.people;
            if (person >= MOST_PEOPLE) {
                stop(TOO_MUCH);
                return;
            }
            tokens.pass();
            into.holds[person] = readNumber(0, MOST_HOLDS);
            into.every[person] = readNumber(2, 9);
            into.away[person] = readNumber(1, into.every[person] - 1);
            into.fond[person] = readNumber(0, MOST_FOND);
            into.by[person] = NONE;
            if (isGoing() && tokens.isWord("by")) {
                tokens.pass();
                into.by[person] = readPacker(person);
            }
            into.people++;
        }

        private int readPacker(int person) {
            boolean isOneself = tokens.isNumber() && !tokens.isTooLong() && tokens.number() == person;
            if (isOneself) {
                stop(ONESELF);
            }
            return readNumber(0, MOST_PEOPLE - 1);
        }

        private int readNumber(int first, int last) {
            if (!isGoing()) {
                return 0;
            }
            if (!tokens.isNumber()) {
                stop(CANNOT_STAND);
                return 0;
            }
            int number = tokens.number();
            if (tokens.isTooLong() || number < first || number > last) {
                stop(TOO_MUCH);
                return 0;
            }
            tokens.pass();
            return number;
        }

        private void readSign(char sign) {
            if (!isGoing()) {
                return;
            }
            if (tokens.isSign(sign)) {
                tokens.pass();
            } else {
                stop(CANNOT_STAND);
            }
        }

        private void readRule(Rule which, boolean puts) {
            if (which.told()) {
                stop(TOLD_TWICE);
                return;
            }
            which.open();
            rule = which;
            isPuts = puts;
            tokens.pass();
            readExpr(0);
        }

        private void readExpr(int within) {
            if (within >= MOST_WITHIN) {
                stop(couldBegin() ? TOO_MUCH : CANNOT_STAND);
                return;
            }
            readAnd(within);
            for (int or = 0; or < MOST_BYTES && isGoing() && tokens.isWord("or"); or++) {
                tokens.pass();
                readAnd(within);
                rule.add(Rule.OR);
            }
        }

        private boolean couldBegin() {
            return tokens.isNumber() || tokens.isAnyWord() || tokens.isSign('(');
        }

        private void readAnd(int within) {
            readNot(within);
            for (int and = 0; and < MOST_BYTES && isGoing() && tokens.isWord("and"); and++) {
                tokens.pass();
                readNot(within);
                rule.add(Rule.AND);
            }
        }

        private void readNot(int within) {
            int nots = 0;
            while (nots < MOST_NOTS && tokens.isWord("not")) {
                tokens.pass();
                nots++;
            }
            if (nots == MOST_NOTS && tokens.isWord("not")) {
                stop(TOO_MUCH);
                return;
            }
            readTest(within);
            for (int not = 0; not < nots; not++) {
                rule.add(Rule.NOT);
            }
        }

        private void readTest(int within) {
            readSum(within);
            if (!isGoing()) {
                return;
            }
            int step = testStep();
            if (step != 0) {
                tokens.pass();
                readSum(within);
                rule.add(step);
            }
        }

        private int testStep() {
            if (tokens.isSign('<')) {
                return Rule.LESS;
            }
            return tokens.isSign('=') ? Rule.LIKE : 0;
        }

        private int sumStep() {
            if (tokens.isSign('+')) {
                return Rule.PLUS;
            }
            return tokens.isSign('-') ? Rule.MINUS : 0;
        }

        private int productStep() {
            if (tokens.isSign('*')) {
                return Rule.TIMES;
            }
            return tokens.isSign('/') ? Rule.OVER : 0;
        }

        private void readSum(int within) {
            readProduct(within);
            int step = sumStep();
            for (int steps = 0; steps < MOST_BYTES && isGoing() && step != 0; steps++) {
                tokens.pass();
                readProduct(within);
                rule.add(step);
                step = sumStep();
            }
        }

        private void readProduct(int within) {
            readPart(within);
            int step = productStep();
            for (int steps = 0; steps < MOST_BYTES && isGoing() && step != 0; steps++) {
                tokens.pass();
                readPart(within);
                rule.add(step);
                step = productStep();
            }
        }

        private void readPart(int within) {
            if (!isGoing()) {
                return;
            }
            if (tokens.isNumber()) {
                rule.add(readNumber(0, 9999));
            } else if (tokens.isAnyWord()) {
                readValue();
            } else if (tokens.isSign('(')) {
                tokens.pass();
                readExpr(within + 1);
                readSign(')');
            } else {
                stop(CANNOT_STAND);
            }
        }

        private void readValue() {
            int value = valueOfBoth();
            if (value == 0) {
                value = isPuts ? valueOfPuts() : valueOfFeels();
            }
            if (value == 0) {
                stop(NO_VALUE);
                return;
            }
            rule.add(value);
            tokens.pass();
        }

        private int valueOfPuts() {
            if (tokens.isWord("use")) {
                return Rule.USE;
            }
            if (tokens.isWord("weight")) {
                return Rule.WEIGHT;
            }
            if (tokens.isWord("stock")) {
                return Rule.STOCK;
            }
            return tokens.isWord("room") ? Rule.ROOM : 0;
        }

        private int valueOfFeels() {
            if (tokens.isWord("had")) {
                return Rule.HAD;
            }
            return tokens.isWord("away") ? Rule.AWAY : 0;
        }

        private int valueOfBoth() {
            if (tokens.isWord("fond")) {
                return Rule.FOND;
            }
            return tokens.isWord("day") ? Rule.DAY : 0;
        }
    }

    /** All that days and acts change, in one row of cells, so that it is kept by one copy. */
    static final class State {
        private static final int OUT = 1;
        private static final int CASE = OUT + MOST_PEOPLE;
        private static final int FOND = CASE + MOST_PEOPLE;
        private static final int PACKER = FOND + MOST_PEOPLE;
        private static final int STOCK = PACKER + MOST_PEOPLE;
        private static final int INSIDE = STOCK + MOST_THINGS;
        static final int SIZE = INSIDE + MOST_PEOPLE * MOST_THINGS;

        private final int[] cells = new int[SIZE];

        void begin(House told) {
            for (int cell = 0; cell < SIZE; cell++) {
                cells[cell] = 0;
            }
            for (int thing = 0; thing < told.things; thing++) {
                cells[STOCK + thing] = told.stock[thing];
            }
            for (int person = 0; person < told.people; person++) {
                cells[CASE + person] = person;
                cells[FOND + person] = told.fond[person];
                // one may be told as a packer and never told as a person
                cells[PACKER + person] = told.by[person] < told.people ? told.by[person] : NONE;
            }
        }

        void copyFrom(State other) {
            System.arraycopy(other.cells, 0, cells, 0, SIZE);
        }

        void keepIn(int[] rows, int row) {
            System.arraycopy(cells, 0, rows, row * SIZE, SIZE);
        }

        void takeFrom(int[] rows, int row) {
            System.arraycopy(rows, row * SIZE, cells, 0, SIZE);
        }

        int day() {
            return cells[0];
        }

        void addDay() {
            cells[0]++;
        }

        int out(int person) {
            return cells[OUT + person];
        }

        boolean isIn(int person) {
            return cells[OUT + person] == 0;
        }

        void setOut(int person, int days) {
            cells[OUT + person] = days;
        }

        int caseOf(int person) {
            return cells[CASE + person];
        }

        void changeCases(int person, int other) {
            int former = cells[CASE + person];
            cells[CASE + person] = cells[CASE + other];
            cells[CASE + other] = former;
        }

        int fond(int person) {
            return cells[FOND + person];
        }

        void setFond(int person, int fond) {
            cells[FOND + person] = Math.max(0, Math.min(MOST_FOND, fond));
        }

        int packerOf(int person) {
            return cells[PACKER + person];
        }

        void setPacker(int person, int other) {
            cells[PACKER + person] = other;
        }

        int stock(int thing) {
            return cells[STOCK + thing];
        }

        void addStock(int thing, int many) {
            cells[STOCK + thing] += many;
        }

        int pieces(int person, int thing) {
            return cells[INSIDE + cells[CASE + person] * MOST_THINGS + thing];
        }

        /** From the cupboard into the case that one has; back, if below 0. */
        void move(int person, int thing, int many) {
            cells[INSIDE + cells[CASE + person] * MOST_THINGS + thing] += many;
            cells[STOCK + thing] -= many;
        }

        int whoIsOut(int people) {
            int bits = 0;
            for (int person = 0; person < people; person++) {
                if (!isIn(person)) {
                    bits |= 1 << person;
                }
            }
            return bits;
        }

        int whoIsIn(int people) {
            return ~whoIsOut(people) & (1 << people) - 1;
        }

        int allFond(int people) {
            int all = 0;
            for (int person = 0; person < people; person++) {
                all += fond(person);
            }
            return all;
        }

        int crossest(int people) {
            int first = NONE;
            for (int person = 0; person < people; person++) {
                if (packerOf(person) != NONE && (first == NONE || fond(person) < fond(first))) {
                    first = person;
                }
            }
            return first;
        }

        int fondest(int packer, int people) {
            int first = NONE;
            for (int person = 0; person < people; person++) {
                if (packerOf(person) == packer && (first == NONE || fond(person) > fond(first))) {
                    first = person;
                }
            }
            return first;
        }

        int packsFor(int packer, int people) {
            int bits = 0;
            for (int person = 0; person < people; person++) {
                if (packerOf(person) == packer) {
                    bits |= 1 << person;
                }
            }
            return bits;
        }

        void dismiss(int packer, int people) {
            for (int person = 0; person < people; person++) {
                if (packerOf(person) == packer) {
                    setPacker(person, NONE);
                }
            }
        }

        int ring(int person, int people) {
            int bits = 0;
            int at = packerOf(person);
            for (int step = 0; step < people && at != NONE; step++) {
                bits |= 1 << at;
                if (at == person) {
                    return bits;
                }
                at = packerOf(at);
            }
            return 0;
        }

        int chain(int person, int people) {
            int at = packerOf(person);
            for (int packers = 0; packers < people; packers++) {
                if (at == NONE) {
                    return packers;
                }
                at = packerOf(at);
            }
            return NONE;
        }

        int whoHas(int owner, int people) {
            for (int person = 0; person < people; person++) {
                if (caseOf(person) == owner) {
                    return person;
                }
            }
            return NONE;
        }

        int mixed(int people) {
            int bits = 0;
            for (int person = 0; person < people; person++) {
                if (caseOf(person) != person) {
                    bits |= 1 << person;
                }
            }
            return bits;
        }

        /** Whom one comes to from case to case; a swap of two of them parts them into two rounds. */
        private int round(int person, int people) {
            int bits = 0;
            int at = person;
            for (int step = 0; step < people; step++) {
                bits |= 1 << at;
                at = caseOf(at);
            }
            return bits;
        }

        int toRight(int people) {
            int swaps = 0;
            for (int person = 0; person < people; person++) {
                boolean isFirstOfRound = (round(person, people) & (1 << person) - 1) == 0;
                if (!isFirstOfRound) {
                    swaps++;
                }
            }
            return swaps;
        }

        int firstToRight(int people) {
            for (int person = 0; person < people; person++) {
                int round = round(person, people);
                for (int other = person + 1; other < people; other++) {
                    if ((round & 1 << other) != 0) {
                        return 10 * person + other;
                    }
                }
            }
            return NONE;
        }
    }

    /** States as they were ahead of the latest acts, in a row that begins anew at its end. */
    static final class Acts {
        private final int[] rows = new int[MOST_ACTS * State.SIZE];
        private int oldest = 0;
        private int kept = 0;

        void clear() {
            oldest = 0;
            kept = 0;
        }

        int kept() {
            return kept;
        }

        void keep(State before) {
            before.keepIn(rows, (oldest + kept) % MOST_ACTS);
            if (kept < MOST_ACTS) {
                kept++;
            } else {
                oldest = (oldest + 1) % MOST_ACTS;
            }
        }

        boolean takeBack(State into) {
            if (kept == 0) {
                return false;
            }
            kept--;
            into.takeFrom(rows, (oldest + kept) % MOST_ACTS);
            return true;
        }

        void copyFrom(Acts other) {
            System.arraycopy(other.rows, 0, rows, 0, rows.length);
            oldest = other.oldest;
            kept = other.kept;
        }
    }

    /** What was seen in cases. */
    static final class Seen {
        private final int[] person = new int[MOST_SEEN];
        private final int[] thing = new int[MOST_SEEN];
        private final int[] days = new int[MOST_SEEN];
        private final int[] pieces = new int[MOST_SEEN];
        private int many = 0;

        void clear() {
            many = 0;
        }

        int many() {
            return many;
        }

        boolean add(int who, int what, int behind, int howMany) {
            if (many >= MOST_SEEN) {
                return false;
            }
            person[many] = who;
            thing[many] = what;
            days[many] = behind;
            pieces[many] = howMany;
            many++;
            return true;
        }

        void copyFrom(Seen other) {
            many = 0;
            for (int at = 0; at < other.many; at++) {
                add(other.person[at], other.thing[at], other.days[at], other.pieces[at]);
            }
        }

        int lastDay() {
            int last = 0;
            for (int at = 0; at < many; at++) {
                last = Math.max(last, days[at]);
            }
            return last;
        }

        boolean isSoBehind(int behind, State state) {
            for (int at = 0; at < many; at++) {
                if (days[at] == behind && state.pieces(person[at], thing[at]) != pieces[at]) {
                    return false;
                }
            }
            return true;
        }
    }

    /** Days that go by on a state of its own, and what is counted on the way. */
    static final class Walk {
        final State state = new State();
        private final int[] values = new int[Rule.VALUES];
        private final int[] trips = new int[MOST_PEOPLE];
        // one is out for at most 8 days more
        private int[] ways = new int[9];
        private int[] nextWays = new int[9];
        private House told;
        private int emptyCases = 0;
        private int seed = 0;

        Walk(House first) {
            told = first;
        }

        void begin(House house, State from) {
            told = house;
            state.copyFrom(from);
            emptyCases = 0;
            for (int person = 0; person < MOST_PEOPLE; person++) {
                trips[person] = 0;
            }
        }

        int emptyCases() {
            return emptyCases;
        }

        int tripsOf(int person) {
            return trips[person];
        }

        int allTrips() {
            int all = 0;
            for (int person = 0; person < MOST_PEOPLE; person++) {
                all += trips[person];
            }
            return all;
        }

        void pass(int days) {
            for (int day = 0; day < days; day++) {
                passDay();
            }
        }

        void passDay() {
            for (int person = 0; person < told.people; person++) {
                if (!state.isIn(person)) {
                    stayOut(person);
                } else if (leavesOn(told.every[person], state.day())) {
                    if (isPackerIn(person)) {
                        packFor(person);
                    }
                    leave(person);
                }
            }
            state.addDay();
        }

        private boolean isPackerIn(int person) {
            int packer = state.packerOf(person);
            return packer != NONE && state.isIn(packer);
        }

        private static boolean leavesOn(int every, int day) {
            return every > 0 && day % every == 0;
        }

        private void stayOut(int person) {
            state.setOut(person, state.out(person) - 1);
            if (state.isIn(person)) {
                state.setFond(person, fondBehind(person));
                unpack(person);
            }
        }

        private int fondBehind(int person) {
            int had = told.useWith(state, person);
            int fond = state.fond(person);
            if (!told.feels.told()) {
                return had >= 10 ? fond + 1 : fond - 1;
            }
            setValue(Rule.FOND, fond);
            setValue(Rule.DAY, state.day());
            setValue(Rule.HAD, had);
            setValue(Rule.AWAY, told.away[person]);
            return told.feels.answer(values);
        }

        private void unpack(int person) {
            for (int thing = 0; thing < told.things; thing++) {
                state.move(person, thing, -state.pieces(person, thing));
            }
        }

        private void leave(int person) {
            trips[person]++;
            if (told.weightWith(state, person) == 0) {
                emptyCases++;
            }
            state.setOut(person, told.away[person]);
        }

        private void packFor(int person) {
            int room = told.holds[state.caseOf(person)] - told.weightWith(state, person);
            for (int thing = 0; thing < told.things; thing++) {
                int weight = told.weight[thing];
                int most = weight > 0 ? room / weight : 0;
                int many = Math.min(wanted(person, thing, room), Math.min(state.stock(thing), most));
                if (many > 0) {
                    state.move(person, thing, many);
                    room -= many * weight;
                }
            }
        }

        private int wanted(int person, int thing, int room) {
            int fond = state.fond(person);
            if (!told.puts.told()) {
                return told.use[thing] <= fond ? 1 : 0;
            }
            setValue(Rule.FOND, fond);
            setValue(Rule.DAY, state.day());
            setValue(Rule.USE, told.use[thing]);
            setValue(Rule.WEIGHT, told.weight[thing]);
            setValue(Rule.STOCK, state.stock(thing));
            setValue(Rule.ROOM, room);
            return Math.min(told.puts.answer(values), MOST_PUT);
        }

        private void setValue(int value, int number) {
            values[-1 - value] = number;
        }

        void passYears(int firstSeed, int days) {
            seed = firstSeed;
            for (int day = 0; day < days; day++) {
                befall(draw(5));
                passDay();
            }
        }

        private void befall(int lot) {
            if (lot == 0 && told.people > 0) {
                int person = draw(told.people);
                int other = draw(told.people);
                state.changeCases(person, other);
            } else if (lot == 1 && told.people > 0) {
                int person = draw(told.people);
                state.setFond(person, draw(10));
            } else if (lot == 2 && told.things > 0) {
                int thing = draw(told.things);
                if (state.stock(thing) < MOST_STOCK) {
                    state.addStock(thing, 1);
                }
            }
        }

        private int draw(int of) {
            seed = seed * 1103515245 + 12345;
            return of > 0 ? (seed >>> 16 & 0x7fff) % of : 0;
        }

        /** Whether one is in hangs on one's own days alone, so only these are followed. */
        int waysIn(House house, State from, int person, int days, int tenths) {
            wipe(ways);
            ways[from.out(person)] = 1;
            for (int day = from.day(); day < from.day() + days; day++) {
                wipe(nextWays);
                for (int out = 0; out < ways.length; out++) {
                    int behind = outBehind(house, person, out, day);
                    nextWays[out] += ways[out] * tenths;
                    nextWays[behind] += ways[out] * (10 - tenths);
                }
                int[] former = ways;
                ways = nextWays;
                nextWays = former;
            }
            return ways[0];
        }

        private static int outBehind(House house, int person, int out, int day) {
            if (out > 0) {
                return out - 1;
            }
            return leavesOn(house.every[person], day) ? house.away[person] : 0;
        }

        private static void wipe(int[] row) {
            for (int at = 0; at < row.length; at++) {
                row[at] = 0;
            }
        }
    }

    /** How a case is packed best, and how things balance. */
    static final class Packing {
        // the most use of the things from a first one on, by what the case still holds
        private final int[][] most = new int[MOST_THINGS + 1][MOST_HOLDS + 1];
        private House told;
        private State now;

        Packing(House first, State state) {
            told = first;
            now = state;
        }

        void fill(House house, State state, int holds) {
            told = house;
            now = state;
            for (int room = 0; room <= holds; room++) {
                most[house.things][room] = 0;
            }
            for (int thing = house.things - 1; thing >= 0; thing--) {
                for (int room = 0; room <= holds; room++) {
                    most[thing][room] = mostFrom(thing, room);
                }
            }
        }

        private int mostFrom(int thing, int room) {
            int use = 0;
            for (int many = mostPieces(thing, room); many >= 0; many--) {
                use = Math.max(use, useBy(thing, many, room));
            }
            return use;
        }

        private int mostPieces(int thing, int room) {
            int weight = told.weight[thing];
            return weight > 0 ? Math.min(room / weight, now.stock(thing)) : 0;
        }

        private int useBy(int thing, int many, int room) {
            return many * told.use[thing] + most[thing + 1][room - many * told.weight[thing]];
        }

        int mostUse(int holds) {
            return most[0][holds];
        }

        int manyOf(int which, int holds) {
            int room = holds;
            for (int thing = 0; thing < which; thing++) {
                room -= firstMany(thing, room) * told.weight[thing];
            }
            return firstMany(which, room);
        }

        private int firstMany(int thing, int room) {
            for (int many = mostPieces(thing, room); many > 0; many--) {
                if (useBy(thing, many, room) == most[thing][room]) {
                    return many;
                }
            }
            return 0;
        }

        int fewestToBalance(House house, State state, int weight) {
            int ways = 1;
            for (int thing = 0; thing < house.things; thing++) {
                ways *= 3;
            }
            int fewest = NONE;
            for (int way = 0; way < ways; way++) {
                int used = thingsThatBalance(house, state, weight, way);
                if (used != NONE && (fewest == NONE || used < fewest)) {
                    fewest = used;
                }
            }
            return fewest;
        }

        /** A way's digits by 3 tell of each thing: 0 out of the scales, 1 with the weight, 2 against it. */
        private static int thingsThatBalance(House house, State state, int weight, int way) {
            int rest = way;
            int heavier = weight;
            int used = 0;
            for (int thing = 0; thing < house.things; thing++) {
                int side = rest % 3;
                rest /= 3;
                if (side != 0) {
                    if (state.stock(thing) < 1) {
                        return NONE;
                    }
                    heavier += side == 1 ? house.weight[thing] : -house.weight[thing];
                    used++;
                }
            }
            return heavier == 0 ? used : NONE;
        }
    }

    /** Which other fondness of one would make all that was seen so, and what to look for next. */
    static final class Guess {
        private final Walk walk;
        private final int[] found = new int[MOST_PEOPLE * (MOST_FOND + 1)];
        // of each thing the unlike numbers so far, a row as long as what is found
        private final int[][] stocks = new int[MOST_THINGS][MOST_PEOPLE * (MOST_FOND + 1)];
        private final int[] unlike = new int[MOST_THINGS];
        private int many = 0;
        private int things = 0;

        Guess(House first) {
            walk = new Walk(first);
        }

        int many() {
            return many;
        }

        int first() {
            return many > 0 ? found[0] : NONE;
        }

        boolean isSo(House told, State now, Seen seen) {
            walk.begin(told, now);
            return isAllSeenSo(seen);
        }

        private boolean isAllSeenSo(Seen seen) {
            int last = seen.lastDay();
            for (int behind = 0; behind < last; behind++) {
                if (!seen.isSoBehind(behind, walk.state)) {
                    return false;
                }
                walk.passDay();
            }
            return seen.isSoBehind(last, walk.state);
        }

        void findAll(House told, State now, Seen seen) {
            many = 0;
            for (int person = 0; person < told.people; person++) {
                for (int fond = 0; fond <= MOST_FOND; fond++) {
                    if (fond == now.fond(person)) {
                        continue;
                    }
                    walk.begin(told, now);
                    walk.state.setFond(person, fond);
                    if (isAllSeenSo(seen)) {
                        found[many] = 10 * person + fond;
                        many++;
                    }
                }
            }
        }

        void compareStocks(House told, State now) {
            things = told.things;
            for (int thing = 0; thing < things; thing++) {
                unlike[thing] = 0;
            }
            for (int at = 0; at < many; at++) {
                walk.begin(told, now);
                walk.state.setFond(found[at] / 10, found[at] % 10);
                walk.pass(LOOK_DAYS);
                for (int thing = 0; thing < things; thing++) {
                    addIfUnlike(thing, walk.state.stock(thing));
                }
            }
        }

        private void addIfUnlike(int thing, int stock) {
            for (int at = 0; at < unlike[thing]; at++) {
                if (stocks[thing][at] == stock) {
                    return;
                }
            }
            stocks[thing][unlike[thing]] = stock;
            unlike[thing]++;
        }

        int mostUnlike() {
            int first = NONE;
            for (int thing = 0; thing < things; thing++) {
                if (unlike[thing] > 0 && (first == NONE || unlike[thing] > unlike[first])) {
                    first = thing;
                }
            }
            return first;
        }

        int unlikeNumbers() {
            int first = mostUnlike();
            return first == NONE ? 0 : unlike[first];
        }
    }

    /** Two packers, each cross (1) or not (0); a couple of choices stands at 2 by the first and the other. */
    static final class Game {
        private final int[] firstGains = new int[4];
        private final int[] otherGains = new int[4];

        void play(House told, State now, Walk walk, int person, int other) {
            for (int couple = 0; couple < 4; couple++) {
                walk.begin(told, now);
                beCross(told, walk.state, person, couple / 2);
                beCross(told, walk.state, other, couple % 2);
                walk.pass(GAME_DAYS);
                firstGains[couple] = gain(told, walk.state, person, couple / 2);
                otherGains[couple] = gain(told, walk.state, other, couple % 2);
            }
        }

        private static void beCross(House told, State state, int packer, int choice) {
            for (int person = 0; choice == 1 && person < told.people; person++) {
                if (state.packerOf(person) == packer) {
                    state.setFond(person, 0);
                }
            }
        }

        private static int gain(House told, State state, int packer, int choice) {
            int use = 0;
            for (int person = 0; person < told.people; person++) {
                if (state.packerOf(person) == packer) {
                    use += told.useWith(state, person);
                }
            }
            return use / 3 + (choice == 1 ? CROSS_GAIN : 0);
        }

        private boolean rests(int couple) {
            return firstGains[couple] >= firstGains[couple ^ 2] && otherGains[couple] >= otherGains[couple ^ 1];
        }

        int resting() {
            int many = 0;
            for (int couple = 0; couple < 4; couple++) {
                if (rests(couple)) {
                    many++;
                }
            }
            return many;
        }

        int firstResting() {
            for (int couple = 0; couple < 4; couple++) {
                if (rests(couple)) {
                    return couple / 2 * 10 + couple % 2;
                }
            }
            return NONE;
        }
    }
}
