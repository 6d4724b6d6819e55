import java.lang.reflect.InvocationTargetException;
import java.lang.reflect.Method;
import java.util.ArrayList;
import java.util.HashMap;
import java.util.List;
import java.util.Map;
import java.util.Random;

/** Runs of calls by fixed seeds, asked of the class and of the Oracle; any unlike answer fails. */
public final class RandomRunsTest {
    private static final String[] QUESTIONS = {
        "count", "thing", "person", "in", "then", "packed", "cupboard", "later", "next", "lacking",
        "emptiest", "best", "toHold", "balance", "fonder", "look", "trains", "game", "years", "trips",
        "together", "awayBoth", "alone", "least", "near", "load", "without", "fault"};
    private static final String[] ACTS = {
        "days", "swap", "buy", "packer", "mend", "undo", "see", "forget", "image", "restore",
        "days", "swap", "buy", "packer", "mend", "see", "see"};
    private static final String[] VOCABULARY = {
        "thing", "person", "puts", "feels", "by", "or", "and", "not", "fond", "use", "weight", "stock",
        "room", "day", "had", "away", "x", ";", "(", ")", "+", "-", "*", "/", "<", "=", "0", "1", "2",
        "6", "7", "9", "10", "20", "21", "60", "61", "9999", "00003", "12345", "?", "A", "\t", "\u00e9", "\0"};

    private static int wrong = 0;
    private static long asked = 0;

    private final Random random;
    private final PackedCases x = new PackedCases();
    private final Oracle oracle = new Oracle();
    private final Map<String, Method> methods = new HashMap<>();
    private final Map<String, Method> oracles = new HashMap<>();
    private final StringBuilder log = new StringBuilder();
    private int calls = 0;
    private boolean isBroken = false;

    private RandomRunsTest(long seed) {
        random = new Random(seed);
        log.append("seed ").append(seed).append('\n');
        for (Method m : PackedCases.class.getDeclaredMethods()) {
            methods.put(m.getName(), m);
        }
        for (Method m : Oracle.class.getDeclaredMethods()) {
            if ((m.getModifiers() & java.lang.reflect.Modifier.PUBLIC) != 0) {
                oracles.put(m.getName(), m);
            }
        }
    }

    public static void main(String[] args) {
        int runs = args.length > 0 ? Integer.parseInt(args[0]) : 500;
        int first = args.length > 1 ? Integer.parseInt(args[1]) : 0;
        for (int seed = first; seed < first + runs && wrong < 5; seed++) {
            new RandomRunsTest(seed).run();
        }
        System.out.println(asked + " calls, " + wrong + " runs with a wrong answer");
        if (wrong != 0) {
            System.exit(1);
        }
    }

    private void run() {
        if (random.nextInt(4) > 0) {
            build(false);
        }
        while (calls < 400 && !isBroken) {
            int dice = random.nextInt(100);
            if (dice < 2) {
                build(random.nextBoolean());
            } else if (dice < 35) {
                ask(ACTS[random.nextInt(ACTS.length)]);
            } else {
                ask(QUESTIONS[random.nextInt(QUESTIONS.length)]);
            }
        }
    }

    // ---- calls

    private Object answer(Object of, Method m, Object[] args) {
        try {
            return m.invoke(of, args);
        } catch (InvocationTargetException e) {
            return "throws " + e.getCause().getClass().getName();
        } catch (IllegalAccessException e) {
            throw new IllegalStateException(e);
        }
    }

    private void call(String name, Object... args) {
        calls++;
        asked++;
        Object got = answer(x, methods.get(name), args);
        Object due = answer(oracle, oracles.get(name), args);
        log.append(name).append(java.util.Arrays.toString(args)).append(" -> ").append(due).append('\n');
        if (got == null ? due != null : !got.equals(due)) {
            System.out.println(log + "but answered " + got);
            wrong++;
            isBroken = true;
        }
    }

    private void ask(String name) {
        Class<?>[] types = methods.get(name).getParameterTypes();
        Object[] args = new Object[types.length];
        for (int i = 0; i < args.length; i++) {
            args[i] = argument(name, i);
        }
        call(name, args);
    }

    private int upTo(int last) {
        int dice = random.nextInt(40);
        return dice == 0 ? -1 : dice == 1 ? last + 1 : random.nextInt(last + 1);
    }

    private int argument(String name, int i) {
        if (random.nextInt(150) == 0) {
            return random.nextInt();
        }
        int people = Math.max(0, oracle.count(1) - 1);
        int things = Math.max(0, oracle.count(0) - 1);
        int days = random.nextBoolean() ? upTo(100) : upTo(12);
        String key = name + i;
        switch (key) {
            case "count0": return upTo(14);
            case "thing0": case "cupboard0": case "lacking0": case "least0": case "buy0":
            case "in1": case "packed1": case "see1": case "without1": return upTo(things);
            case "best1": return random.nextInt(4) == 0 ? -1 : upTo(things);
            case "thing1": case "fonder0": case "years2": return upTo(2);
            case "person1": return upTo(9);
            case "then2": case "later1": return upTo(3);
            case "look0": case "game2": case "trips2": case "near1": return upTo(1);
            case "then1": case "packed2": case "cupboard1": case "later0": case "emptiest0": case "years1":
            case "trips1": case "together2": case "awayBoth2": case "alone0": case "least1": case "load1":
            case "without2": return days;
            case "balance0": return upTo(99);
            case "trains1": return 1 + random.nextInt(5);
            case "trains2": return upTo(10);
            case "years0": return random.nextInt();
            case "days0": return random.nextInt(3) == 0 ? upTo(20) : upTo(5);
            case "buy1": case "mend1": return upTo(9);
            case "see2": return random.nextBoolean() ? upTo(30) : upTo(4);
            case "see3": return random.nextBoolean() ? upTo(9) : upTo(1);
            default: return upTo(people);
        }
    }

    // ---- texts

    private void build(boolean isMutant) {
        String text = mutated(isMutant);
        if (text.length() > 700) {
            return;
        }
        for (int[] five : Texts.fives(text)) {
            call("feed", five[0], five[1], five[2], five[3], five[4]);
        }
        log.append("text ").append(text.replace('\n', '~')).append('\n');
        call("house", text.length());
        call("fault");
    }

    private String mutated(boolean isMutant) {
        List<String> tokens = tokens();
        for (int n = isMutant ? 1 + random.nextInt(2) : 0; n > 0; n--) {
            String token = VOCABULARY[random.nextInt(VOCABULARY.length)];
            int at = random.nextInt(tokens.size() + 1);
            if (at == tokens.size() || random.nextInt(3) == 0) {
                tokens.add(at, token);
            } else if (random.nextBoolean()) {
                tokens.set(at, token);
            } else {
                tokens.remove(at);
            }
        }
        StringBuilder text = new StringBuilder();
        for (String token : tokens) {
            if (needsBlank(text, token) || random.nextInt(30) == 0) {
                text.append(random.nextInt(9) == 0 ? '\n' : ' ');
            }
            text.append(token);
        }
        if (isMutant && random.nextInt(8) == 0) {
            text.setLength(random.nextInt(text.length() + 1));
        }
        return text.toString();
    }

    private static boolean needsBlank(StringBuilder text, String token) {
        if (text.length() == 0) {
            return false;
        }
        char last = text.charAt(text.length() - 1);
        char first = token.charAt(0);
        return Character.isDigit(last) && Character.isDigit(first)
                || Character.isLowerCase(last) && Character.isLowerCase(first);
    }

    private List<String> tokens() {
        List<List<String>> lines = new ArrayList<>();
        int things = random.nextInt(7) + (random.nextInt(60) == 0 ? 1 : 0);
        int people = random.nextInt(8) + (random.nextInt(60) == 0 ? 1 : 0);
        for (int i = 0; i < things; i++) {
            lines.add(line("thing", 1 + random.nextInt(random.nextBoolean() ? 20 : 4), random.nextInt(10),
                    random.nextInt(10)));
        }
        for (int i = 0; i < people; i++) {
            int every = 2 + random.nextInt(random.nextBoolean() ? 8 : 3);
            List<String> line = line("person", random.nextInt(61), every, 1 + random.nextInt(every - 1),
                    random.nextInt(10));
            if (random.nextInt(5) > 0) {
                int by = random.nextInt(random.nextInt(4) == 0 ? 7 : Math.max(1, people));
                line.add("by");
                line.add("" + (by == i && random.nextInt(40) > 0 ? (by + 1) % 7 : by));
            }
            lines.add(line);
        }
        if (random.nextBoolean()) {
            lines.add(rule("puts", new String[] {"fond", "use", "weight", "stock", "room", "day"}));
        }
        if (random.nextBoolean()) {
            lines.add(rule("feels", new String[] {"fond", "had", "away", "day"}));
        }
        if (random.nextInt(4) == 0) {
            // people keep their numbers: only rules and things may move
            java.util.Collections.rotate(lines, random.nextInt(3));
        }
        List<String> tokens = new ArrayList<>();
        for (List<String> line : lines) {
            tokens.addAll(line);
            tokens.add(";");
        }
        return tokens;
    }

    private static List<String> line(String word, int... numbers) {
        List<String> line = new ArrayList<>();
        line.add(word);
        for (int n : numbers) {
            line.add("" + n);
        }
        return line;
    }

    private List<String> rule(String word, String[] values) {
        List<String> line = new ArrayList<>();
        line.add(word);
        expr(line, values, 0, random.nextInt(12) == 0 ? 7 : random.nextInt(4));
        return line;
    }

    private void expr(List<String> into, String[] values, int depth, int most) {
        boolean isDeep = most == 7;
        int joins = isDeep ? 0 : random.nextInt(4);
        test(into, values, depth, most);
        for (int i = 0; i < joins; i++) {
            into.add(random.nextBoolean() ? "and" : "or");
            test(into, values, depth, most);
        }
    }

    private void test(List<String> into, String[] values, int depth, int most) {
        int nots = random.nextInt(4) > 0 ? 0 : random.nextInt(40) == 0 ? 7 : random.nextInt(7);
        for (int i = 0; i < nots; i++) {
            into.add("not");
        }
        sum(into, values, depth, most);
        if (random.nextInt(3) == 0) {
            into.add(random.nextBoolean() ? "<" : "=");
            sum(into, values, depth, most);
        }
    }

    private void sum(List<String> into, String[] values, int depth, int most) {
        part(into, values, depth, most);
        int joins = most == 7 ? 0 : random.nextInt(3);
        for (int i = 0; i < joins; i++) {
            into.add("" + "+-*/".charAt(random.nextInt(4)));
            part(into, values, depth, most);
        }
    }

    private void part(List<String> into, String[] values, int depth, int most) {
        if (depth < most && (most == 7 && random.nextInt(20) > 0 || random.nextInt(5) == 0)) {
            into.add("(");
            expr(into, values, depth + 1, most);
            into.add(")");
        } else if (random.nextInt(3) > 0) {
            into.add(values[random.nextInt(values.length)]);
        } else {
            into.add("" + random.nextInt(random.nextInt(4) == 0 ? 10000 : 12));
        }
    }
}
