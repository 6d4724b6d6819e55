import java.util.ArrayDeque;
import java.util.ArrayList;
import java.util.Arrays;
import java.util.HashMap;
import java.util.HashSet;
import java.util.List;
import java.util.Map;
import java.util.NoSuchElementException;
import java.util.Set;
import java.util.function.Consumer;
import java.util.function.Predicate;
import java.util.function.ToIntFunction;

/**
 * The document once more, in the plainest way and by other means than the class under test
 * (trees, copies, tries of all ways), so that both can be asked the same.
 */
final class Oracle {
    static final class Fault extends RuntimeException {
        private static final long serialVersionUID = 1L;
        final int kind;
        final int place;

        Fault(int kind, int place) {
            this.kind = kind;
            this.place = place;
        }
    }

    record Token(char kind, String text, int at) {
        boolean is(String other) {
            return text.equals(other);
        }
    }

    interface Node {
        int eval(Map<String, Integer> values);
    }

    record Thing(int weight, int use, int stock) {
    }

    record Guest(int holds, int every, int away, int fond, int by) {
    }

    record Sight(int person, int thing, int days, int many) {
    }

    static final class Plan {
        final List<Thing> things = new ArrayList<>();
        final List<Guest> people = new ArrayList<>();
        Node puts;
        Node feels;
    }

    static final class Bag {
        final int owner;
        final int[] pieces;

        Bag(int owner, int[] pieces) {
            this.owner = owner;
            this.pieces = pieces;
        }
    }

    /** The house as it stands; what one has in hand is a Bag. */
    static final class World {
        int day;
        int[] out;
        Bag[] bags;
        int[] stock;
        int[] fond;
        int[] packer;
        final List<Integer> leavers = new ArrayList<>();
        int empties;

        World copy() {
            World w = new World();
            w.day = day;
            w.out = out.clone();
            w.bags = new Bag[bags.length];
            for (int i = 0; i < bags.length; i++) {
                w.bags[i] = new Bag(bags[i].owner, bags[i].pieces.clone());
            }
            w.stock = stock.clone();
            w.fond = fond.clone();
            w.packer = packer.clone();
            return w;
        }
    }

    private final List<Integer> tape = new ArrayList<>();
    private Plan plan = new Plan();
    private World now = fresh(plan);
    private List<World> past = new ArrayList<>();
    private List<Sight> sights = new ArrayList<>();
    private World imageNow;
    private List<World> imagePast;
    private List<Sight> imageSights;
    private int faultPlace = -1;
    private final int[] status = new int[3];

    private static World fresh(Plan plan) {
        World w = new World();
        int n = plan.people.size();
        w.out = new int[n];
        w.bags = new Bag[n];
        w.fond = new int[n];
        w.packer = new int[n];
        w.stock = new int[plan.things.size()];
        for (int i = 0; i < n; i++) {
            Guest g = plan.people.get(i);
            w.bags[i] = new Bag(i, new int[plan.things.size()]);
            w.fond[i] = g.fond;
            w.packer[i] = g.by >= n ? -1 : g.by;
        }
        for (int i = 0; i < w.stock.length; i++) {
            w.stock[i] = plan.things.get(i).stock;
        }
        return w;
    }

    // ---- the text

    public int feed(int a, int b, int c, int d, int e) {
        if (tape.size() > 680) {
            return -1;
        }
        for (int n : new int[] {a, b, c, d, e}) {
            tape.add(n >> 24 & 255);
            tape.add(n >> 16 & 255);
            tape.add(n >> 8 & 255);
            tape.add(n & 255);
        }
        return tape.size();
    }

    public int house(int n) {
        if (n < 0 || n > tape.size()) {
            throw new IllegalArgumentException();
        }
        StringBuilder text = new StringBuilder();
        for (int i = 0; i < n; i++) {
            text.append((char) (int) tape.get(i));
        }
        tape.clear();
        try {
            plan = new Parser(text.toString()).house();
        } catch (Fault f) {
            faultPlace = f.place;
            status[0]++;
            return f.kind;
        }
        faultPlace = -1;
        now = fresh(plan);
        past = new ArrayList<>();
        sights = new ArrayList<>();
        imageNow = null;
        return 0;
    }

    public int fault() {
        return faultPlace;
    }

    static final class Parser {
        private final List<Token> tokens = new ArrayList<>();
        private int at = 0;

        Parser(String text) {
            int i = 0;
            while (i < text.length()) {
                char c = text.charAt(i);
                int j = i + 1;
                if (c == ' ' || c == 10) {
                    i++;
                    continue;
                }
                char kind = '?';
                if (c >= 'a' && c <= 'z') {
                    kind = 'w';
                    while (j < text.length() && text.charAt(j) >= 'a' && text.charAt(j) <= 'z') {
                        j++;
                    }
                } else if (c >= '0' && c <= '9') {
                    kind = 'n';
                    while (j < text.length() && text.charAt(j) >= '0' && text.charAt(j) <= '9') {
                        j++;
                    }
                } else if (";()+-*/<=".indexOf(c) >= 0) {
                    kind = 's';
                }
                tokens.add(new Token(kind, text.substring(i, j), i));
                i = j;
            }
            tokens.add(new Token('e', "", text.length()));
        }

        private Token peek() {
            return tokens.get(at);
        }

        private Fault bad(int kind) {
            return new Fault(kind, peek().at);
        }

        private void need(String text) {
            if (!peek().is(text)) {
                throw bad(1);
            }
            at++;
        }

        private int number(int low, int high) {
            if (peek().kind != 'n') {
                throw bad(1);
            }
            String digits = peek().text;
            if (digits.length() > 4 || Integer.parseInt(digits) < low || Integer.parseInt(digits) > high) {
                throw bad(2);
            }
            at++;
            return Integer.parseInt(digits);
        }

        Plan house() {
            Plan plan = new Plan();
            while (peek().kind != 'e') {
                Token t = peek();
                switch (t.text) {
                    case "thing" -> {
                        if (plan.things.size() == 6) {
                            throw bad(2);
                        }
                        at++;
                        plan.things.add(new Thing(number(1, 20), number(0, 9), number(0, 9)));
                    }
                    case "person" -> {
                        if (plan.people.size() == 7) {
                            throw bad(2);
                        }
                        at++;
                        plan.people.add(guest(plan.people.size()));
                    }
                    case "puts" -> {
                        if (plan.puts != null) {
                            throw bad(5);
                        }
                        at++;
                        plan.puts = expr(Set.of("fond", "use", "weight", "stock", "room", "day"), 0);
                    }
                    case "feels" -> {
                        if (plan.feels != null) {
                            throw bad(5);
                        }
                        at++;
                        plan.feels = expr(Set.of("fond", "had", "away", "day"), 0);
                    }
                    default -> throw bad(1);
                }
                need(";");
            }
            return plan;
        }

        private Guest guest(int self) {
            int holds = number(0, 60);
            int every = number(2, 9);
            int away = number(1, every - 1);
            int fond = number(0, 9);
            int by = -1;
            if (peek().is("by")) {
                at++;
                int place = at;
                by = number(0, 6);
                if (by == self) {
                    throw new Fault(4, tokens.get(place).at);
                }
            }
            return new Guest(holds, every, away, fond, by);
        }

        private Node expr(Set<String> values, int parens) {
            if (parens == 6) {
                throw bad(peek().kind == 'w' || peek().kind == 'n' || peek().is("(") ? 2 : 1);
            }
            Node left = and(values, parens);
            while (peek().is("or")) {
                at++;
                Node a = left;
                Node b = and(values, parens);
                left = v -> a.eval(v) != 0 | b.eval(v) != 0 ? 1 : 0;
            }
            return left;
        }

        private Node and(Set<String> values, int parens) {
            Node left = not(values, parens, 1);
            while (peek().is("and")) {
                at++;
                Node a = left;
                Node b = not(values, parens, 1);
                left = v -> a.eval(v) != 0 & b.eval(v) != 0 ? 1 : 0;
            }
            return left;
        }

        private Node not(Set<String> values, int parens, int nth) {
            if (peek().is("not")) {
                if (nth == 7) {
                    throw bad(2);
                }
                at++;
                Node a = not(values, parens, nth + 1);
                return v -> a.eval(v) == 0 ? 1 : 0;
            }
            Node a = sum(values, parens);
            if (peek().is("<")) {
                at++;
                Node b = sum(values, parens);
                return v -> a.eval(v) < b.eval(v) ? 1 : 0;
            }
            if (peek().is("=")) {
                at++;
                Node b = sum(values, parens);
                return v -> a.eval(v) == b.eval(v) ? 1 : 0;
            }
            return a;
        }

        private Node sum(Set<String> values, int parens) {
            Node left = product(values, parens);
            while (peek().is("+") || peek().is("-")) {
                int sign = peek().is("+") ? 1 : -1;
                at++;
                Node a = left;
                Node b = product(values, parens);
                left = v -> (int) ((long) a.eval(v) + (long) sign * b.eval(v));
            }
            return left;
        }

        private Node product(Set<String> values, int parens) {
            Node left = part(values, parens);
            while (peek().is("*") || peek().is("/")) {
                boolean times = peek().is("*");
                at++;
                Node a = left;
                Node b = part(values, parens);
                left = v -> {
                    long x = a.eval(v);
                    long y = b.eval(v);
                    return (int) (times ? x * y : y == 0 ? 0 : x / y);
                };
            }
            return left;
        }

        private Node part(Set<String> values, int parens) {
            Token t = peek();
            if (t.kind == 'n') {
                int n = number(0, 9999);
                return v -> n;
            }
            if (t.kind == 'w') {
                if (!values.contains(t.text)) {
                    throw bad(3);
                }
                at++;
                return v -> v.get(t.text);
            }
            need("(");
            Node inner = expr(values, parens + 1);
            need(")");
            return inner;
        }
    }

    // ---- days

    private int sum(Bag bag, ToIntFunction<Thing> of) {
        int all = 0;
        for (int i = 0; i < plan.things.size(); i++) {
            all += bag.pieces[i] * of.applyAsInt(plan.things.get(i));
        }
        return all;
    }

    private int use(World w, int person) {
        return sum(w.bags[person], Thing::use);
    }

    private int weight(World w, int person) {
        return sum(w.bags[person], Thing::weight);
    }

    private void day(World w) {
        for (int p = 0; p < plan.people.size(); p++) {
            Guest g = plan.people.get(p);
            if (w.out[p] > 0) {
                w.out[p]--;
                if (w.out[p] == 0) {
                    comeBack(w, p, g);
                }
            } else if (w.day % g.every == 0) {
                if (w.packer[p] >= 0 && w.out[w.packer[p]] == 0) {
                    pack(w, p);
                }
                w.leavers.add(p);
                if (Arrays.stream(w.bags[p].pieces).sum() == 0) {
                    w.empties++;
                }
                w.out[p] = g.away;
            }
        }
        w.day++;
    }

    private void comeBack(World w, int p, Guest g) {
        int had = use(w, p);
        int fond = w.fond[p] + (had > 9 ? 1 : -1);
        if (plan.feels != null) {
            fond = plan.feels.eval(Map.of("fond", w.fond[p], "had", had, "away", g.away, "day", w.day));
        }
        w.fond[p] = fond < 0 ? 0 : fond > 9 ? 9 : fond;
        for (int i = 0; i < w.stock.length; i++) {
            w.stock[i] += w.bags[p].pieces[i];
            w.bags[p].pieces[i] = 0;
        }
    }

    private void pack(World w, int p) {
        Bag bag = w.bags[p];
        for (int i = 0; i < w.stock.length; i++) {
            Thing t = plan.things.get(i);
            int room = plan.people.get(bag.owner).holds - sum(bag, Thing::weight);
            int want = t.use <= w.fond[p] ? 1 : 0;
            if (plan.puts != null) {
                want = plan.puts.eval(Map.of("fond", w.fond[p], "use", t.use, "weight", t.weight,
                        "stock", w.stock[i], "room", room, "day", w.day));
            }
            // one by one, as long as there is one and it goes in
            for (int n = 0; n < Math.min(want, 9) && w.stock[i] > 0 && room >= t.weight; n++) {
                bag.pieces[i]++;
                w.stock[i]--;
                room -= t.weight;
            }
        }
    }

    private World ahead(int days) {
        World w = now.copy();
        for (int i = 0; i < days; i++) {
            day(w);
        }
        return w;
    }

    /** The worlds behind 0, 1 .. days. */
    private List<World> row(int days) {
        List<World> row = new ArrayList<>();
        World w = now.copy();
        row.add(w);
        for (int i = 0; i < days; i++) {
            w = w.copy();
            day(w);
            row.add(w);
        }
        return row;
    }

    private static int bits(int n, Predicate<Integer> holds) {
        int bits = 0;
        for (int i = 0; i < n; i++) {
            if (holds.test(i)) {
                bits += 1 << i;
            }
        }
        return bits;
    }

    /** The first of 0 .. n - 1 with the greatest worth; those without any worth are left out. */
    private static int firstMost(int n, Predicate<Integer> counts, ToIntFunction<Integer> worth) {
        int best = -1;
        for (int i = n - 1; i >= 0; i--) {
            if (counts.test(i) && (best < 0 || worth.applyAsInt(i) >= worth.applyAsInt(best))) {
                best = i;
            }
        }
        return best;
    }

    private int people() {
        return plan.people.size();
    }

    private int things() {
        return plan.things.size();
    }

    private void needPerson(int p) {
        if (p < 0 || p >= people()) {
            throw new NoSuchElementException();
        }
    }

    private void needThing(int t) {
        if (t < 0 || t >= things()) {
            throw new NoSuchElementException();
        }
    }

    private static void needWhat(int what, int last) {
        if (what < 0 || what > last) {
            throw new NoSuchElementException();
        }
    }

    private static void between(int n, int low, int high) {
        if (n < low || n > high) {
            throw new IllegalArgumentException();
        }
    }

    // ---- now

    private static List<Integer> owners(World w) {
        List<Integer> owners = new ArrayList<>();
        for (Bag b : w.bags) {
            owners.add(b.owner);
        }
        return owners;
    }

    private static final Map<Integer, Map<List<Integer>, Integer>> FAR = new HashMap<>();

    /** By trying all swaps from the right order on. */
    private static int swapsNeeded(List<Integer> order) {
        Map<List<Integer>, Integer> far = FAR.computeIfAbsent(order.size(), n -> {
            List<Integer> right = new ArrayList<>();
            for (int i = 0; i < n; i++) {
                right.add(i);
            }
            Map<List<Integer>, Integer> found = new HashMap<>();
            ArrayDeque<List<Integer>> queue = new ArrayDeque<>();
            found.put(right, 0);
            queue.add(right);
            while (!queue.isEmpty()) {
                List<Integer> at = queue.remove();
                for (int i = 0; i < n; i++) {
                    for (int j = i + 1; j < n; j++) {
                        List<Integer> next = swapped(at, i, j);
                        if (!found.containsKey(next)) {
                            found.put(next, found.get(at) + 1);
                            queue.add(next);
                        }
                    }
                }
            }
            return found;
        });
        return far.get(order);
    }

    private static List<Integer> swapped(List<Integer> order, int i, int j) {
        List<Integer> next = new ArrayList<>(order);
        next.set(i, order.get(j));
        next.set(j, order.get(i));
        return next;
    }

    private static int firstSwap(List<Integer> order) {
        for (int i = 0; i < order.size(); i++) {
            for (int j = i + 1; j < order.size(); j++) {
                if (swapsNeeded(swapped(order, i, j)) < swapsNeeded(order)) {
                    return i * 10 + j;
                }
            }
        }
        return -1;
    }

    private int piecesInAll(int thing) {
        int all = 0;
        for (Bag b : now.bags) {
            all += b.pieces[thing];
        }
        return all;
    }

    public int count(int what) {
        needWhat(what, 14);
        int inAll = 0;
        for (int i = 0; i < things(); i++) {
            inAll += (piecesInAll(i) + now.stock[i]) * plan.things.get(i).weight;
        }
        return switch (what) {
            case 0 -> things();
            case 1 -> people();
            case 2 -> now.day;
            case 3 -> bits(people(), p -> now.out[p] == 0);
            case 4 -> bits(people(), p -> now.bags[p].owner != p);
            case 5 -> swapsNeeded(owners(now));
            case 6 -> firstSwap(owners(now));
            case 7 -> inAll;
            case 8 -> firstMost(things(), t -> piecesInAll(t) > 0, this::piecesInAll);
            case 9 -> past.size();
            case 10 -> sights.size();
            case 11 -> tape.size();
            default -> status[what - 12];
        };
    }

    public int thing(int thing, int what) {
        needThing(thing);
        needWhat(what, 2);
        Thing t = plan.things.get(thing);
        return what == 0 ? t.weight : what == 1 ? t.use : now.stock[thing];
    }

    public int person(int person, int what) {
        needPerson(person);
        needWhat(what, 9);
        Guest g = plan.people.get(person);
        List<Integer> path = new ArrayList<>();
        int at = now.packer[person];
        while (at != -1 && !path.contains(at)) {
            path.add(at);
            at = now.packer[at];
        }
        int end = at;
        return switch (what) {
            case 0 -> g.holds;
            case 1 -> g.every;
            case 2 -> g.away;
            case 3 -> now.fond[person];
            case 4 -> now.packer[person];
            case 5 -> now.bags[person].owner;
            case 6 -> now.out[person];
            case 7 -> bits(people(), p -> now.packer[p] == person);
            case 8 -> path.contains(person) ? bits(people(), path::contains) : 0;
            default -> end == -1 ? path.size() : -1;
        };
    }

    public int in(int person, int thing) {
        needPerson(person);
        needThing(thing);
        return now.bags[person].pieces[thing];
    }

    public int near(int person, int what) {
        needPerson(person);
        needWhat(what, 1);
        if (what == 0) {
            return firstMost(people(), p -> now.packer[p] == person, p -> now.fond[p]);
        }
        return owners(now).indexOf(person);
    }

    // ---- acts

    private void act() {
        past.add(now.copy());
        if (past.size() > 40) {
            past.remove(0);
        }
    }

    public int days(int many) {
        if (many < 1 || many > 20 || now.day > 9999 - many) {
            status[1]++;
            return -1;
        }
        act();
        now = ahead(many).copy();
        return now.day;
    }

    private static void swapBags(World w, int a, int b) {
        Bag bag = w.bags[a];
        w.bags[a] = w.bags[b];
        w.bags[b] = bag;
    }

    public boolean swap(int person, int other) {
        needPerson(person);
        needPerson(other);
        if (person == other) {
            status[1]++;
            return false;
        }
        act();
        swapBags(now, person, other);
        return true;
    }

    public int buy(int thing, int many) {
        needThing(thing);
        if (many < 1 || many > 9 || now.stock[thing] > 99 - many) {
            status[1]++;
            return -1;
        }
        act();
        return now.stock[thing] += many;
    }

    public int packer(int person, int other) {
        needPerson(person);
        if (other != -1) {
            needPerson(other);
        }
        int was = now.packer[person];
        if (was == other || person == other) {
            status[1]++;
            return -2;
        }
        act();
        now.packer[person] = other;
        return was;
    }

    public int mend(int person, int fond) {
        needPerson(person);
        if (fond < 0 || fond > 9) {
            status[1]++;
            return -1;
        }
        act();
        int was = now.fond[person];
        now.fond[person] = fond;
        return was;
    }

    public int undo() {
        if (past.isEmpty()) {
            return -1;
        }
        now = past.remove(past.size() - 1);
        return past.size();
    }

    public void image() {
        imageNow = now.copy();
        imagePast = new ArrayList<>();
        past.forEach(w -> imagePast.add(w.copy()));
        imageSights = new ArrayList<>(sights);
    }

    public boolean restore() {
        if (imageNow == null) {
            return false;
        }
        now = imageNow.copy();
        past = new ArrayList<>();
        imagePast.forEach(w -> past.add(w.copy()));
        sights = new ArrayList<>(imageSights);
        return true;
    }

    // ---- ahead

    public int then(int person, int days, int what) {
        needPerson(person);
        needWhat(what, 3);
        between(days, 0, 100);
        World w = ahead(days);
        return switch (what) {
            case 0 -> w.out[person] > 0 ? 0 : 1;
            case 1 -> w.fond[person];
            case 2 -> use(w, person);
            default -> weight(w, person);
        };
    }

    public int packed(int person, int thing, int days) {
        needPerson(person);
        needThing(thing);
        between(days, 0, 100);
        return ahead(days).bags[person].pieces[thing];
    }

    public int cupboard(int thing, int days) {
        needThing(thing);
        between(days, 0, 100);
        return ahead(days).stock[thing];
    }

    public int later(int days, int what) {
        needWhat(what, 3);
        between(days, 0, 100);
        World w = ahead(days);
        return switch (what) {
            case 0 -> bits(people(), p -> w.out[p] > 0);
            case 1 -> firstMost(people(), p -> w.packer[p] >= 0, p -> -w.fond[p]);
            case 2 -> w.empties;
            default -> firstMost(people(), p -> weight(w, p) > 0, p -> weight(w, p));
        };
    }

    public int next(int person) {
        needPerson(person);
        List<World> row = row(100);
        for (int i = 1; i <= 100; i++) {
            if ((row.get(i).out[person] == 0) != (now.out[person] == 0)) {
                return i;
            }
        }
        return -1;
    }

    public int lacking(int thing) {
        needThing(thing);
        List<World> row = row(100);
        for (int i = 0; i <= 100; i++) {
            if (row.get(i).stock[thing] == 0) {
                return i;
            }
        }
        return -1;
    }

    public int emptiest(int days) {
        between(days, 1, 100);
        List<World> row = row(days);
        return firstMost(days + 1, i -> i > 0,
                i -> (int) Arrays.stream(row.get(i).out).filter(o -> o > 0).count());
    }

    private int daysWith(int days, Predicate<World> holds) {
        return (int) row(days).stream().skip(1).filter(holds).count();
    }

    public int trips(int person, int days, int what) {
        needPerson(person);
        needWhat(what, 1);
        between(days, 0, 100);
        if (what == 0) {
            return (int) ahead(days).leavers.stream().filter(p -> p == person).count();
        }
        List<World> row = row(days);
        return firstMost(days + 1, i -> true, i -> use(row.get(i), person));
    }

    public int together(int person, int other, int days) {
        needPerson(person);
        needPerson(other);
        between(days, 1, 100);
        return daysWith(days, w -> w.out[person] == 0 && w.out[other] == 0);
    }

    public int awayBoth(int person, int other, int days) {
        needPerson(person);
        needPerson(other);
        between(days, 1, 100);
        return daysWith(days, w -> w.out[person] > 0 && w.out[other] > 0);
    }

    public int alone(int days) {
        between(days, 1, 100);
        return daysWith(days, w -> Arrays.stream(w.out).noneMatch(o -> o == 0));
    }

    public int least(int thing, int days) {
        needThing(thing);
        between(days, 0, 100);
        return row(days).stream().mapToInt(w -> w.stock[thing]).min().getAsInt();
    }

    public int load(int person, int days) {
        needPerson(person);
        between(days, 0, 100);
        return row(days).stream().mapToInt(w -> weight(w, person)).max().getAsInt();
    }

    private World changed(int days, Consumer<World> change) {
        World w = now.copy();
        change.accept(w);
        for (int i = 0; i < days; i++) {
            day(w);
        }
        return w;
    }

    public int without(int person, int thing, int days) {
        needPerson(person);
        needThing(thing);
        between(days, 0, 100);
        World w = changed(days, x -> {
            for (int p = 0; p < people(); p++) {
                x.packer[p] = x.packer[p] == person ? -1 : x.packer[p];
            }
        });
        return w.stock[thing] - ahead(days).stock[thing];
    }

    // ---- packing

    /** Forward, by the weight that is used up, with the whole row kept. */
    public int best(int person, int thing) {
        needPerson(person);
        if (thing != -1) {
            needThing(thing);
        }
        int holds = plan.people.get(now.bags[person].owner).holds;
        Map<Integer, int[]> rows = new HashMap<>();
        rows.put(0, new int[things()]);
        for (int t = 0; t < things(); t++) {
            Map<Integer, int[]> wider = new HashMap<>();
            for (Map.Entry<Integer, int[]> e : rows.entrySet()) {
                int weight = e.getKey();
                for (int n = 0; n <= now.stock[t] && weight <= holds; n++) {
                    int[] row = e.getValue().clone();
                    row[t] = n;
                    wider.merge(weight, row, this::better);
                    weight += plan.things.get(t).weight;
                }
            }
            rows = wider;
        }
        int[] best = rows.values().stream().reduce(this::better).get();
        return thing == -1 ? useOf(best) : best[thing];
    }

    private int useOf(int[] row) {
        int use = 0;
        for (int t = 0; t < row.length; t++) {
            use += row[t] * plan.things.get(t).use;
        }
        return use;
    }

    private int[] better(int[] a, int[] b) {
        if (useOf(a) != useOf(b)) {
            return useOf(a) > useOf(b) ? a : b;
        }
        return Arrays.compare(a, b) > 0 ? a : b;
    }

    public int toHold() {
        int all = 0;
        for (int t = 0; t < things(); t++) {
            all += plan.things.get(t).use > 0 ? now.stock[t] * plan.things.get(t).weight : 0;
        }
        return all;
    }

    public int balance(int weight) {
        between(weight, 1, 99);
        return balance(weight, 0);
    }

    private int balance(int difference, int from) {
        if (from == things()) {
            return difference == 0 ? 0 : -1;
        }
        int best = balance(difference, from + 1);
        if (now.stock[from] > 0) {
            for (int sign = -1; sign <= 1; sign += 2) {
                int rest = balance(difference + sign * plan.things.get(from).weight, from + 1);
                if (rest >= 0 && (best < 0 || rest + 1 < best)) {
                    best = rest + 1;
                }
            }
        }
        return best;
    }

    // ---- seen

    public int see(int person, int thing, int days, int many) {
        needPerson(person);
        needThing(thing);
        if (sights.size() == 8 || days < 0 || days > 30 || many < 0 || many > 9) {
            status[2]++;
            return -1;
        }
        sights.add(new Sight(person, thing, days, many));
        return sights.size();
    }

    public void forget() {
        sights.clear();
    }

    private boolean allSo(Consumer<World> change) {
        for (Sight s : sights) {
            if (changed(s.days, change).bags[s.person].pieces[s.thing] != s.many) {
                return false;
            }
        }
        return true;
    }

    private List<int[]> candidates() {
        List<int[]> found = new ArrayList<>();
        for (int p = 0; p < people(); p++) {
            for (int f = 0; f < 10; f++) {
                int who = p;
                int fond = f;
                if (fond != now.fond[who] && allSo(w -> w.fond[who] = fond)) {
                    found.add(new int[] {who, fond});
                }
            }
        }
        return found;
    }

    public int fonder(int what) {
        needWhat(what, 2);
        if (what == 2) {
            return allSo(w -> { }) ? 1 : 0;
        }
        List<int[]> found = candidates();
        if (what == 0) {
            return found.size();
        }
        return found.isEmpty() ? -1 : found.get(0)[0] * 10 + found.get(0)[1];
    }

    public int look(int what) {
        needWhat(what, 1);
        List<Set<Integer>> stocks = new ArrayList<>();
        for (int t = 0; t < things(); t++) {
            stocks.add(new HashSet<>());
        }
        for (int[] c : candidates()) {
            World w = changed(10, x -> x.fond[c[0]] = c[1]);
            for (int t = 0; t < things(); t++) {
                stocks.get(t).add(w.stock[t]);
            }
        }
        int first = firstMost(things(), t -> !stocks.get(t).isEmpty(), t -> stocks.get(t).size());
        return what == 0 ? first : first < 0 ? 0 : stocks.get(first).size();
    }

    // ---- chance

    public int trains(int person, int days, int tenths) {
        needPerson(person);
        between(days, 1, 5);
        between(tenths, 0, 10);
        int all = 0;
        for (int mask = 0; mask < 1 << days; mask++) {
            World w = now.copy();
            int weight = 1;
            for (int d = 0; d < days; d++) {
                if ((mask >> d & 1) == 1) {
                    weight *= tenths;
                    w.day++;
                } else {
                    weight *= 10 - tenths;
                    day(w);
                }
            }
            all += w.out[person] == 0 ? weight : 0;
        }
        return all;
    }

    private int gain(int packer, int[] cross, int person, int other, int me) {
        World w = changed(5, x -> {
            for (int p = 0; p < people(); p++) {
                if (x.packer[p] == person && cross[0] == 1 || x.packer[p] == other && cross[1] == 1) {
                    x.fond[p] = 0;
                }
            }
        });
        int use = 0;
        for (int p = 0; p < people(); p++) {
            use += w.packer[p] == packer ? use(w, p) : 0;
        }
        return use / 3 + 4 * cross[me];
    }

    public int game(int person, int other, int what) {
        needPerson(person);
        needPerson(other);
        needWhat(what, 1);
        if (person == other) {
            throw new IllegalArgumentException();
        }
        if (person(person, 7) == 0 || person(other, 7) == 0) {
            return -1;
        }
        List<Integer> rest = new ArrayList<>();
        for (int a = 0; a < 2; a++) {
            for (int b = 0; b < 2; b++) {
                int mine = gain(person, new int[] {a, b}, person, other, 0);
                int else1 = gain(person, new int[] {1 - a, b}, person, other, 0);
                int yours = gain(other, new int[] {a, b}, person, other, 1);
                int else2 = gain(other, new int[] {a, 1 - b}, person, other, 1);
                if (else1 <= mine && else2 <= yours) {
                    rest.add(a * 10 + b);
                }
            }
        }
        return what == 0 ? rest.size() : rest.isEmpty() ? -1 : rest.get(0);
    }

    private long seed;

    private int draw(int n) {
        seed = (seed * 1103515245L + 12345L) & 0xffffffffL;
        return (int) ((seed / 65536 % 32768) % n);
    }

    public int years(int start, int n, int what) {
        needWhat(what, 2);
        between(n, 0, 100);
        seed = start & 0xffffffffL;
        World w = now.copy();
        for (int i = 0; i < n; i++) {
            int lot = draw(5);
            if (lot == 0 && people() > 0) {
                int a = draw(people());
                int b = draw(people());
                swapBags(w, a, b);
            }
            if (lot == 1 && people() > 0) {
                int p = draw(people());
                w.fond[p] = draw(10);
            }
            if (lot == 2 && things() > 0) {
                int t = draw(things());
                w.stock[t] += w.stock[t] < 99 ? 1 : 0;
            }
            day(w);
        }
        return switch (what) {
            case 0 -> w.leavers.size();
            case 1 -> Arrays.stream(w.fond).sum();
            default -> bits(people(), p -> w.bags[p].owner != p);
        };
    }
}
