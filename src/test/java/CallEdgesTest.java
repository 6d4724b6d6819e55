import java.lang.reflect.InvocationTargetException;
import java.lang.reflect.Method;
import java.util.Arrays;
import java.util.NoSuchElementException;
import java.util.TreeSet;

/**
 * Every call with every argument at its bounds, on both sides of them and far beyond: "no such THING (as everywhere)",
 * "no such PERSON (as everywhere)", "another what", "not 0 to 100" and their like, which of two exceptions goes ahead,
 * and that neither a question nor a call that throws changes anything.
 */
public final class CallEdgesTest {
    private static final Check CHECK = new Check();
    private static final String[] HOUSES = {
        "",
        "thing 3 5 2;",
        "person 12 4 2 6 by 1;person 5 3 1 1 by 0;",
        "thing 3 5 2;thing 10 2 1;person 12 4 2 6 by 1;person 5 3 1 1 by 0;person 20 2 1 9;",
        "thing 1 1 9;".repeat(6) + "person 30 3 1 5 by 1;" + "person 30 2 1 5 by 0;".repeat(6) + "puts fond;",
    };
    /** P a person, Q a person or NONE, T a thing, U a thing or NONE, a number: what from 0 to it, a-b: days and so on. */
    private static final String[] QUESTIONS = {
        "count 14", "thing T 2", "person P 9", "in P T", "then P 0-100 3", "packed P T 0-100", "cupboard T 0-100",
        "later 0-100 3", "next P", "lacking T", "emptiest 1-100", "best P U", "toHold", "balance 1-99", "fonder 2",
        "look 1", "trains P 1-5 0-10", "game P P 1", "years * 0-100 2", "trips P 0-100 1", "together P P 1-100",
        "awayBoth P P 1-100", "alone 1-100", "least T 0-100", "near P 1", "load P 0-100", "without P T 0-100", "fault",
    };
    /** Their * are numbers that are refused, not thrown at. */
    private static final String[] ACTS = {"swap P P", "buy T *", "packer P Q", "mend P *", "see P T * *"};

    private record Bounds(int first, int last, boolean isFree, boolean isDays) {
        boolean has(int number) {
            return isFree || number >= first && number <= last;
        }

        int[] tried() {
            TreeSet<Integer> tried = new TreeSet<>(Arrays.asList(Integer.MIN_VALUE, Integer.MAX_VALUE, first - 2,
                    first - 1, first, first + 1, last - 1, last, last + 1, last + 2));
            return tried.stream().mapToInt(n -> n).toArray();
        }
    }

    private final String name;
    private final Bounds[] bounds;
    private final Method asked;
    private final Method due;
    private final String house;
    private final boolean isAct;
    private PackedCases x;
    private Oracle oracle;
    private Snapshot ahead;
    private int calls = 0;

    private CallEdgesTest(String call, String house, boolean isAct) {
        String[] words = call.split(" ");
        this.house = house;
        this.isAct = isAct;
        name = words[0];
        begin();
        bounds = new Bounds[words.length - 1];
        for (int at = 0; at < bounds.length; at++) {
            bounds[at] = boundsOf(words[at + 1]);
        }
        asked = method(PackedCases.class);
        due = method(Oracle.class);
    }

    public static void main(String[] args) {
        for (String house : HOUSES) {
            for (String call : QUESTIONS) {
                new CallEdgesTest(call, house, false).run();
            }
            for (String call : ACTS) {
                new CallEdgesTest(call, house, true).run();
            }
        }
        CHECK.end();
    }

    private Method method(Class<?> of) {
        for (Method m : of.getDeclaredMethods()) {
            if (m.getName().equals(name) && m.getParameterCount() == bounds.length) {
                return m;
            }
        }
        throw new IllegalStateException(name);
    }

    private Bounds boundsOf(String word) {
        int people = x.count(1);
        int things = x.count(0);
        switch (word) {
            case "P": return new Bounds(0, people - 1, false, false);
            case "Q": return new Bounds(-1, people - 1, false, false);
            case "T": return new Bounds(0, things - 1, false, false);
            case "U": return new Bounds(-1, things - 1, false, false);
            case "*": return new Bounds(0, 9, true, false);
            default: break;
        }
        int dash = word.indexOf('-');
        int last = Integer.parseInt(word.substring(dash + 1));
        return dash < 0 ? new Bounds(0, last, false, false)
                : new Bounds(Integer.parseInt(word.substring(0, dash)), last, false, true);
    }

    /** Some days on, with cases that are mixed up, if there are any. */
    private void begin() {
        x = Texts.with(house);
        oracle = new Oracle();
        for (int[] five : Texts.fives(house)) {
            oracle.feed(five[0], five[1], five[2], five[3], five[4]);
        }
        oracle.house(house.length());
        x.days(3);
        oracle.days(3);
        if (x.count(1) > 1) {
            x.swap(0, 1);
            oracle.swap(0, 1);
        }
        ahead = Snapshot.of(x);
        calls = 0;
    }

    private void run() {
        tryAll(new Object[bounds.length], 0);
        end();
    }

    private void end() {
        CHECK.due(name + ": nothing changes", Snapshot.of(x).isLike(ahead), true);
    }

    private void tryAll(Object[] args, int at) {
        if (at == args.length) {
            ask(args);
            return;
        }
        for (int number : bounds[at].tried()) {
            args[at] = number;
            tryAll(args, at + 1);
        }
    }

    private void ask(Object[] args) {
        String thrown = thrown(args);
        if (isAct && thrown.isEmpty()) {
            return;
        }
        // an object is used for 512 calls
        calls++;
        if (calls > 150) {
            end();
            begin();
        }
        Object got = answer(x, asked, args);
        Object want = thrown.isEmpty() ? answer(oracle, due, args) : thrown;
        boolean isDue = got.equals(want);
        CHECK.due(isDue ? name : name + Arrays.toString(args) + " answered " + got + ", due is " + want, isDue, true);
    }

    /** The class of the exception that is due; none: an empty text. */
    private String thrown(Object[] args) {
        boolean isIllegal = name.equals("game") && args[0].equals(args[1]);
        for (int at = 0; at < args.length; at++) {
            boolean isIn = bounds[at].has((Integer) args[at]);
            if (!isIn && !bounds[at].isDays()) {
                return NoSuchElementException.class.getName();
            }
            isIllegal |= !isIn;
        }
        return isIllegal ? IllegalArgumentException.class.getName() : "";
    }

    private static Object answer(Object of, Method m, Object[] args) {
        try {
            return m.invoke(of, args);
        } catch (InvocationTargetException e) {
            return e.getCause().getClass().getName();
        } catch (IllegalAccessException e) {
            throw new IllegalStateException(e);
        }
    }
}
