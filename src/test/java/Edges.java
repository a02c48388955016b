import java.lang.reflect.InvocationTargetException;
import java.lang.reflect.Method;
import java.lang.reflect.Modifier;
import java.util.Map;
import java.util.TreeMap;
import java.util.function.Supplier;
import java.util.function.ToIntFunction;

/** What the tests of boundary cases share. */
final class Edges {
    private static final String TEST_NAME = "(terms|promise[0-2][0-9])_\\w+";

    private Edges() {
    }

    /** Runs every test of a class: each one is a method that is named after the promise and the case. */
    static void run(Class<?> tests) throws IllegalAccessException {
        Map<String, Method> found = new TreeMap<>();
        for (Method method : tests.getDeclaredMethods()) {
            if (method.getName().matches(TEST_NAME)) {
                found.put(method.getName(), method);
            }
        }
        for (Method test : found.values()) {
            runOne(test);
        }
        System.out.print(found.size() + " tests, ");
        Due.end();
    }

    private static void runOne(Method test) throws IllegalAccessException {
        Due.part(test.getName());
        int before = Due.checks();
        Due.holds("a static test without parameters", Modifier.isStatic(test.getModifiers())
                && test.getParameterCount() == 0);
        try {
            test.invoke(null);
        } catch (InvocationTargetException thrown) {
            Due.same("the test", thrown.getCause().toString(), "nothing thrown");
        }
        Due.holds("something is checked", Due.checks() > before + 1);
    }

    /** The first numbers beyond the two ends of a range, and the farthest ones. */
    static int[] beyond(int least, int most) {
        return new int[] {least - 1, most + 1, Integer.MIN_VALUE, Integer.MAX_VALUE};
    }

    /** A call that answers an error; but for that call, the card is the same as one on which it was not made. */
    static void refused(String call, Supplier<Card> made, ToIntFunction<Card> act, int error) {
        keeps(call, made, act, error);
    }

    /** A call that answers so, and by which nothing is changed: neither the state nor pad, history and slots. */
    static void keeps(String call, Supplier<Card> made, ToIntFunction<Card> act, int answer) {
        Card asked = made.get();
        Card other = made.get();
        Due.is(call, act.applyAsInt(asked), answer);
        Due.same("the card after " + call, asked.lookAtAll(), other.lookAtAll());
    }

    /** A card with something of everything: see Card.busy(); the history is full, both slots and the pad are used. */
    static Card rich() {
        Card x = Card.busy();
        x.save(0);
        x.pass(1);
        x.set(CoalescedCalls.COST, 9);
        x.save(1);
        x.come(2);
        x.type("f1;t2;m0");
        return x;
    }
}
