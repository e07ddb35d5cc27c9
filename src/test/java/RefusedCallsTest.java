import java.util.function.Supplier;
import java.util.function.ToLongFunction;

/**
 * Every throws clause at both ends of every range, in states with and without stations, relays and messages: "If
 * several exceptions apply to a call, the one that its throws clause names first is thrown; a call that throws
 * changes nothing."
 */
public final class RefusedCallsTest {
    private static final String INDEX = "throws.IndexOutOfBoundsException";
    private static final String ARGUMENT = "throws.IllegalArgumentException";
    private static final String STATE = "throws.IllegalStateException";
    private static final String ELEMENT = "throws.NoSuchElementException";
    private static final String ANSWER = "an answer";
    private static final int LEAST = Integer.MIN_VALUE;
    private static final int MOST = Integer.MAX_VALUE;
    private static final int[] MINUTES = {LEAST, -1, 0, 1000000, 1000001, MOST};

    private final String name;
    /** By node: s for a station, r for a relay. */
    private final String kinds;
    private final Supplier<Satellitering> start;
    /** Is asked what must be refused, and must stay as one that was not asked. */
    private final Satellitering asked;
    private final String before;
    private final int messages;

    private RefusedCallsTest(String name, String kinds, Supplier<Satellitering> start) {
        this.name = name;
        this.kinds = kinds;
        this.start = start;
        asked = start.get();
        before = Checks.state(asked);
        messages = asked.messages();
    }

    public static void main(String[] args) {
        new RefusedCallsTest("no nodes", "", Satellitering::new).all();
        new RefusedCallsTest("one station", "s", () -> nodes("s")).all();
        new RefusedCallsTest("one relay", "r", () -> nodes("r")).all();
        new RefusedCallsTest("no relay", "ssss", () -> nodes("ssss")).all();
        new RefusedCallsTest("no station", "rrrrrr", () -> nodes("rrrrrr")).all();
        new RefusedCallsTest("no messages", "srsr", () -> nodes("srsr")).all();
        new RefusedCallsTest("one message", "rss", () -> sent("rss", 1, 0)).all();
        new RefusedCallsTest("messages on their way", "srsr", () -> sent("srsr", 5, 2)).all();
        new RefusedCallsTest("19 messages", "rsrsrsrsrr", () -> sent("rsrsrsrsrr", 19, 7)).all();
        new RefusedCallsTest("all there can be", "ssssrrrrrr", () -> sent("ssssrrrrrr", 20, 3)).all();
        new RefusedCallsTest("all have arrived", "rrrrrrssss", () -> sent("rrrrrrssss", 20, 30)).all();
        Checks.end();
    }

    /** Stations and relays that see them, all near to one another. */
    private static Satellitering nodes(String kinds) {
        Satellitering x = new Satellitering();
        for (int i = 0; i < kinds.length(); i++) {
            if (kinds.charAt(i) == 's') {
                x.addStation(5 * i);
            } else {
                x.addRelay(5 * i, 1, 100, 1 + i % 2);
            }
        }
        return x;
    }

    private static Satellitering sent(String kinds, int messages, int minutes) {
        Satellitering x = nodes(kinds);
        int first = kinds.indexOf('s');
        int last = kinds.lastIndexOf('s');
        for (int i = 0; i < messages; i++) {
            x.send(i % 2 == 0 ? first : last, i % 2 == 0 ? last : first);
        }
        for (int i = 0; i < minutes; i++) {
            x.pass(1);
        }
        return x;
    }

    private void all() {
        addStation();
        addRelay();
        setCapacity();
        questionsOfOneNode();
        questionsOfTwoNodes();
        spread();
        send();
        pass();
        questionsOfAMessage();
        questionsOfAHop();
        later();
    }

    private void addStation() {
        for (int place : new int[] {LEAST, -1, 0, 359, 360, MOST}) {
            String due = due(null, 0 <= place && place <= 359, count('s') < 4);
            call("addStation(" + place + ")", due, x -> x.addStation(place));
        }
    }

    private void addRelay() {
        for (int place : new int[] {LEAST, -1, 0, 359, 360, MOST}) {
            addRelay(place, 0, 0, 1);
        }
        for (int speed : new int[] {LEAST, -31, -30, 0, 30, 31, MOST}) {
            addRelay(0, speed, 0, 1);
        }
        for (int reach : new int[] {LEAST, -1, 0, 179, 180, MOST}) {
            addRelay(0, 0, reach, 1);
        }
        for (int capacity : new int[] {LEAST, -1, 0, 1, 9, 10, MOST}) {
            addRelay(0, 0, 0, capacity);
        }
        addRelay(-1, 31, 180, 0);
        addRelay(359, 30, 179, 9);
    }

    private void addRelay(int place, int speed, int reach, int capacity) {
        boolean inRange = 0 <= place && place <= 359 && -30 <= speed && speed <= 30
                && 0 <= reach && reach <= 179 && 1 <= capacity && capacity <= 9;
        String due = due(null, inRange, count('r') < 6);
        call("addRelay(" + place + ", " + speed + ", " + reach + ", " + capacity + ")", due,
                x -> x.addRelay(place, speed, reach, capacity));
    }

    private void setCapacity() {
        for (int relay : nodeNumbers()) {
            for (int capacity : new int[] {LEAST, -1, 0, 1, 9, 10, MOST}) {
                String due = due(is('r', relay), 1 <= capacity && capacity <= 9, null);
                call("setCapacity(" + relay + ", " + capacity + ")", due, x -> x.setCapacity(relay, capacity));
            }
        }
    }

    private void questionsOfOneNode() {
        for (int node : nodeNumbers()) {
            for (int minute : MINUTES) {
                call("placeAt(" + node + ", " + minute + ")", due(is(node), isMinute(minute), null),
                        x -> x.placeAt(node, minute));
            }
            call("load(" + node + ")", due(is(node), null, null), x -> x.load(node));
            call("relayOf(" + node + ")", due(is('s', node), null, null), x -> x.relayOf(node));
            call("handovers(" + node + ")", due(is('s', node), null, null), x -> x.handovers(node));
        }
    }

    private void questionsOfTwoNodes() {
        for (int node : nodeNumbers()) {
            for (int other : nodeNumbers()) {
                for (int minute : MINUTES) {
                    String due = due(is(node) && is(other), isMinute(minute), null);
                    String with = "(" + node + ", " + other + ", " + minute + ")";
                    call("see" + with, due, x -> x.see(node, other, minute) ? 1 : 0);
                    call("nextContact" + with, due, x -> x.nextContact(node, other, minute));
                    call("view" + with, due, x -> x.view(node, other, minute));
                    call("arrival" + with, due, x -> x.arrival(node, other, minute));
                    call("arrivalByFlooding" + with, due, x -> x.arrivalByFlooding(node, other, minute));
                }
            }
        }
    }

    private void spread() {
        for (int node : nodeNumbers()) {
            for (int minute : MINUTES) {
                for (int later : new int[] {LEAST, -1, 0, 400, 401, MOST}) {
                    String due = due(is(node), isMinute(minute) && 0 <= later && later <= 400, null);
                    call("spread(" + node + ", " + minute + ", " + later + ")", due,
                            x -> x.spread(node, minute, later));
                }
            }
        }
    }

    private void send() {
        for (int station : nodeNumbers()) {
            for (int other : nodeNumbers()) {
                String due = due(is('s', station) && is('s', other), station != other, messages < 20);
                call("send(" + station + ", " + other + ")", due, x -> x.send(station, other));
            }
        }
    }

    private void pass() {
        for (int minutes : new int[] {LEAST, -1, 0, 1, 30, 31, MOST}) {
            call("pass(" + minutes + ")", due(null, 1 <= minutes && minutes <= 30, null), x -> x.pass(minutes));
        }
    }

    private void questionsOfAMessage() {
        for (int message : messageNumbers()) {
            boolean there = 0 <= message && message < messages;
            String due = due(there, null, null);
            call("nodeOf(" + message + ")", due, x -> x.nodeOf(message));
            call("hops(" + message + ")", due, x -> x.hops(message));
            call("blocked(" + message + ")", due, x -> x.blocked(message));
            boolean even = message % 2 == 0;
            boolean arrived = there && asked.nodeOf(message) == (even ? kinds.lastIndexOf('s') : kinds.indexOf('s'));
            call("arrivedAt(" + message + ")", !there ? INDEX : arrived ? ANSWER : ELEMENT,
                    x -> x.arrivedAt(message));
        }
    }

    private void questionsOfAHop() {
        for (int message : messageNumbers()) {
            boolean there = 0 <= message && message < messages;
            int hops = there ? asked.hops(message) : 0;
            for (int hop : new int[] {LEAST, -1, 0, hops - 1, hops, hops + 1, 8, MOST}) {
                String due = due(there && 0 <= hop && hop < hops, null, null);
                call("hopNode(" + message + ", " + hop + ")", due, x -> x.hopNode(message, hop));
                call("hopMinute(" + message + ", " + hop + ")", due, x -> x.hopMinute(message, hop));
            }
        }
    }

    /** What was refused must not be seen later, either: in the numbers that come next, and when minutes pass. */
    private void later() {
        Satellitering spared = start.get();
        if (count('s') < 4) {
            same("addStation(7) later", spared, x -> x.addStation(7));
        }
        if (count('r') < 6) {
            same("addRelay(7, 2, 60, 3) later", spared, x -> x.addRelay(7, 2, 60, 3));
        }
        if (count('s') > 1) {
            same("send later", spared, x -> x.send(kinds.lastIndexOf('s'), kinds.indexOf('s')));
        }
        for (int i = 0; i < 14; i++) {
            same("pass(30) later", spared, x -> x.pass(30));
        }
        Checks.due(name + ": the state later", Checks.state(spared), Checks.state(asked));
    }

    private void same(String call, Satellitering spared, ToLongFunction<Satellitering> ask) {
        Checks.due(name + ": " + call, Checks.outcome(spared, ask), Checks.outcome(asked, ask));
    }

    /** What is answered is asked of an object of its own, as the call may change it. */
    private void call(String call, String due, ToLongFunction<Satellitering> ask) {
        boolean refused = !due.equals(ANSWER);
        String got = Checks.outcome(refused ? asked : start.get(), ask);
        Checks.due(name + ": " + call, due, got.startsWith("throws.") ? got : ANSWER);
        if (refused) {
            Checks.due(name + ": the state after " + call, before, Checks.state(asked));
        }
    }

    /** The clauses in the document's order, each true if the call is fine by it, or null if the call has it not. */
    private static String due(Boolean index, Boolean argument, Boolean state) {
        if (index != null && !index) {
            return INDEX;
        }
        if (argument != null && !argument) {
            return ARGUMENT;
        }
        return state != null && !state ? STATE : ANSWER;
    }

    private int[] nodeNumbers() {
        int count = kinds.length();
        return new int[] {LEAST, -1, 0, 1, kinds.lastIndexOf('s'), kinds.lastIndexOf('r'), count, count + 1, 10, MOST};
    }

    private int[] messageNumbers() {
        return new int[] {LEAST, -1, 0, 1, messages - 1, messages, messages + 1, 19, 20, MOST};
    }

    private boolean is(int node) {
        return 0 <= node && node < kinds.length();
    }

    private boolean is(char kind, int node) {
        return is(node) && kinds.charAt(node) == kind;
    }

    private static boolean isMinute(int minute) {
        return 0 <= minute && minute <= 1000000;
    }

    private int count(char kind) {
        int found = 0;
        for (int i = 0; i < kinds.length(); i++) {
            found += kinds.charAt(i) == kind ? 1 : 0;
        }
        return found;
    }
}
