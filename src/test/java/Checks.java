import java.util.NoSuchElementException;
import java.util.Set;
import java.util.function.Consumer;
import java.util.function.Supplier;
import java.util.function.ToLongFunction;

/** What the tests share: answers that are due, calls that must be refused, and the closing line. */
final class Checks {
    static final Class<IndexOutOfBoundsException> INDEX = IndexOutOfBoundsException.class;
    static final Class<IllegalArgumentException> ARGUMENT = IllegalArgumentException.class;
    static final Class<IllegalStateException> STATE = IllegalStateException.class;
    static final Class<NoSuchElementException> ELEMENT = NoSuchElementException.class;
    private static final Set<Class<?>> PROMISED = Set.of(INDEX, ARGUMENT, STATE, ELEMENT);

    private static int made = 0;
    private static int wrong = 0;

    private Checks() {
    }

    static void due(String what, long want, long got) {
        made++;
        if (want != got) {
            fail(what + " answered " + got + ", due is " + want);
        }
    }

    static void due(String what, boolean want, boolean got) {
        due(what, want ? 1 : 0, got ? 1 : 0);
    }

    static void due(String what, String want, String got) {
        made++;
        if (!want.equals(got)) {
            fail(what + " answered\n  " + got + "\ndue is\n  " + want);
        }
    }

    /** The call must throw just that exception, and an object that was asked must be as one that was not. */
    static void refused(String what, Class<? extends RuntimeException> want,
            Supplier<Satellitering> start, Consumer<Satellitering> call) {
        Satellitering asked = start.get();
        String got = thrownBy(asked, call);
        due(what, "throws." + want.getSimpleName(), got);
        Satellitering spared = start.get();
        due("the state after " + what, state(spared), state(asked));
        due("pass(7) after " + what, outcome(spared, x -> x.pass(7)), outcome(asked, x -> x.pass(7)));
        due("the state later after " + what, state(spared), state(asked));
    }

    static String thrownBy(Satellitering x, Consumer<Satellitering> call) {
        return outcome(x, y -> {
            call.accept(y);
            return 0;
        });
    }

    /** The answer as a text, or what was thrown: the class itself, so that a class below it is seen. */
    static String outcome(Satellitering x, ToLongFunction<Satellitering> call) {
        try {
            return Long.toString(call.applyAsLong(x));
        } catch (RuntimeException e) {
            if (!PROMISED.contains(e.getClass())) {
                fail("a call threw " + e);
            }
            return "throws." + e.getClass().getSimpleName();
        }
    }

    /** All that the state of an object lets one ask without changing it. */
    static String state(Satellitering x) {
        StringBuilder text = new StringBuilder();
        text.append("now ").append(x.now()).append(", nodes");
        for (int i = 0; i < x.nodes(); i++) {
            int node = i;
            text.append(" [").append(x.placeAt(node, 0)).append(' ').append(x.placeAt(node, 1));
            text.append(" load ").append(x.load(node));
            text.append(" sees ").append(outcome(x, y -> y.nextContact(node, 0, 0)));
            text.append(" relay ").append(outcome(x, y -> y.relayOf(node)));
            text.append(" handovers ").append(outcome(x, y -> y.handovers(node)));
            text.append(" capacity ").append(outcome(x, y -> capacity(y, node))).append(']');
        }
        text.append(", messages");
        for (int i = 0; i < x.messages(); i++) {
            int message = i;
            text.append(" [at ").append(x.nodeOf(message));
            text.append(" since ").append(outcome(x, y -> y.arrivedAt(message)));
            text.append(" blocked ").append(x.blocked(message)).append(" hops");
            for (int hop = 0; hop < x.hops(message); hop++) {
                text.append(' ').append(x.hopNode(message, hop)).append('@').append(x.hopMinute(message, hop));
            }
            text.append(']');
        }
        return text.toString();
    }

    private static int capacity(Satellitering x, int relay) {
        int before = x.setCapacity(relay, 1);
        x.setCapacity(relay, before);
        return before;
    }

    static void fail(String what) {
        wrong++;
        if (wrong <= 40) {
            System.out.println(what);
        }
    }

    static void end() {
        if (wrong > 0) {
            System.out.println(wrong + " of " + made + " checks went wrong");
            System.exit(1);
        }
    }
}
