import java.util.Random;
import java.util.function.ToLongFunction;

/** Random runs of calls, each answer compared with that of PlainRing (promises 1 to 25). */
public final class RandomRunsTest {
    private static final int RUNS = 1200;
    private static final int CALLS = 512;

    private static long blocks = 0;
    private static long handovers = 0;
    private static long arrivals = 0;
    private static long longWays = 0;

    private final Random random;
    private final int run;
    private final Satellitering x = new Satellitering();
    private final PlainRing plain = new PlainRing();
    private final int[] reaches;
    private final int[] speeds;
    private final int capacity;
    private int calls = 0;

    private RandomRunsTest(int run) {
        this.run = run;
        random = new Random(7919L * run + 13);
        int[][] manyReaches = {{5, 40}, {20, 60}, {0, 179}, {0, 3}, {90, 179}, {30, 31}};
        int[][] manySpeeds = {{-30, 30}, {-3, 3}, {1, 2}, {-10, 10}, {0, 1}};
        reaches = manyReaches[random.nextInt(manyReaches.length)];
        speeds = manySpeeds[random.nextInt(manySpeeds.length)];
        capacity = random.nextInt(3) == 0 ? 9 : 1 + random.nextInt(2);
    }

    public static void main(String[] args) {
        for (int run = 0; run < RUNS; run++) {
            new RandomRunsTest(run).play();
        }
        // without these the runs would not have come to what the promises are about
        Checks.due("the runs had blocked messages", true, blocks > 2000);
        Checks.due("the runs had handovers", true, handovers > 2000);
        Checks.due("the runs had messages that arrived", true, arrivals > 5000);
        Checks.due("the runs had ways of many hops", true, longWays > 100);
        Checks.end();
    }

    private void play() {
        int first = 2 + random.nextInt(9);
        for (int i = 0; i < first; i++) {
            add();
        }
        // what a step and the last looks need fits in behind
        while (calls < CALLS - 150) {
            step();
        }
        lookAtAll();
    }

    private int from(int least, int most) {
        return least + random.nextInt(most - least + 1);
    }

    private boolean seldom() {
        return random.nextInt(12) == 0;
    }

    private int anyNode() {
        int count = plain.nodes();
        return seldom() || count == 0 ? from(-2, count + 1) : random.nextInt(count);
    }

    private int anyMessage() {
        int count = plain.messages();
        return seldom() || count == 0 ? from(-2, count + 1) : random.nextInt(count);
    }

    private int anyMinute() {
        switch (random.nextInt(14)) {
            case 0: return from(-2, 1);
            case 1: return from(999998, 1000002);
            case 2: return from(0, 1000000);
            case 3: return Integer.MAX_VALUE - random.nextInt(2);
            case 4: return plain.now();
            default: return from(0, 800);
        }
    }

    private int oneOf(int usual, int edge) {
        return seldom() ? edge : usual;
    }

    private void add() {
        if (random.nextInt(5) < 2) {
            int place = oneOf(from(0, 359), from(0, 1) == 0 ? from(-2, 1) : from(358, 361));
            compare("addStation(" + place + ")", a -> a.addStation(place), b -> b.addStation(place));
            return;
        }
        int place = oneOf(from(0, 359), from(358, 361));
        int speed = oneOf(from(speeds[0], speeds[1]), from(0, 1) == 0 ? from(29, 32) : from(-32, -29));
        int reach = oneOf(from(reaches[0], reaches[1]), from(0, 1) == 0 ? from(-1, 1) : from(178, 181));
        int room = oneOf(from(1, capacity), from(-1, 11));
        compare("addRelay(" + place + ", " + speed + ", " + reach + ", " + room + ")",
                a -> a.addRelay(place, speed, reach, room), b -> b.addRelay(place, speed, reach, room));
    }

    private void step() {
        switch (random.nextInt(16)) {
            case 0: if (random.nextInt(3) == 0) { add(); } else { setCapacity(); } break;
            case 1: case 2: case 3: pass(); break;
            case 4: case 5: case 6: send(); break;
            case 7: case 8: case 9: contacts(); break;
            case 10: case 11: ways(); break;
            case 12: case 13: case 14: message(); break;
            default: node(); break;
        }
    }

    private void setCapacity() {
        int relay = anyNode();
        int room = from(0, 10);
        compare("setCapacity(" + relay + ", " + room + ")",
                a -> a.setCapacity(relay, room), b -> b.setCapacity(relay, room));
    }

    private void pass() {
        int minutes = random.nextInt(3) == 0 ? from(0, 31) : from(1, 6);
        compare("pass(" + minutes + ")", a -> a.pass(minutes), b -> b.pass(minutes));
    }

    private void send() {
        int station = anyStation();
        int other = anyStation();
        compare("send(" + station + ", " + other + ")",
                a -> a.send(station, other), b -> b.send(station, other));
    }

    private int anyStation() {
        for (int tries = 0; tries < 20; tries++) {
            int node = anyNode();
            if (seldom() || !outcome(plain, b -> b.relayOf(node)).startsWith("throws")) {
                return node;
            }
        }
        return 0;
    }

    private void contacts() {
        int node = anyNode();
        int other = anyNode();
        int minute = anyMinute();
        String asked = "(" + node + ", " + other + ", " + minute + ")";
        compare("see" + asked, a -> a.see(node, other, minute) ? 1 : 0, b -> b.see(node, other, minute) ? 1 : 0);
        compare("nextContact" + asked,
                a -> a.nextContact(node, other, minute), b -> b.nextContact(node, other, minute));
        compare("view" + asked, a -> a.view(node, other, minute), b -> b.view(node, other, minute));
    }

    private void ways() {
        int node = anyNode();
        int other = anyNode();
        int minute = anyMinute();
        int later = oneOf(from(0, 60), from(-1, 402));
        String asked = "(" + node + ", " + other + ", " + minute + ")";
        compare("arrival" + asked, a -> a.arrival(node, other, minute), b -> b.arrival(node, other, minute));
        compare("arrivalByFlooding" + asked,
                a -> a.arrivalByFlooding(node, other, minute), b -> b.arrival(node, other, minute));
        compare("spread(" + node + ", " + minute + ", " + later + ")",
                a -> a.spread(node, minute, later), b -> b.spread(node, minute, later));
    }

    private void message() {
        look(anyMessage(), from(-1, 5));
    }

    private void look(int message, int hop) {
        compare("nodeOf(" + message + ")", a -> a.nodeOf(message), b -> b.nodeOf(message));
        compare("arrivedAt(" + message + ")", a -> a.arrivedAt(message), b -> b.arrivedAt(message));
        compare("hops(" + message + ")", a -> a.hops(message), b -> b.hops(message));
        compare("hopNode(" + message + ", " + hop + ")", a -> a.hopNode(message, hop), b -> b.hopNode(message, hop));
        compare("hopMinute(" + message + ", " + hop + ")",
                a -> a.hopMinute(message, hop), b -> b.hopMinute(message, hop));
        compare("blocked(" + message + ")", a -> a.blocked(message), b -> b.blocked(message));
    }

    private void node() {
        int node = anyNode();
        int minute = anyMinute();
        compare("placeAt(" + node + ", " + minute + ")", a -> a.placeAt(node, minute), b -> b.placeAt(node, minute));
        compare("load(" + node + ")", a -> a.load(node), b -> b.load(node));
        compare("relayOf(" + node + ")", a -> a.relayOf(node), b -> b.relayOf(node));
        compare("handovers(" + node + ")", a -> a.handovers(node), b -> b.handovers(node));
        compare("now()", a -> a.now(), b -> b.now());
        compare("nodes()", a -> a.nodes(), b -> b.nodes());
        compare("messages()", a -> a.messages(), b -> b.messages());
    }

    private void lookAtAll() {
        for (int message = 0; message < plain.messages(); message++) {
            look(message, plain.hops(message) - 1);
            blocks += plain.blocked(message);
            longWays += plain.hops(message) > 3 ? 1 : 0;
        }
        for (int i = 0; i < plain.nodes(); i++) {
            int node = i;
            String served = outcome(plain, b -> b.handovers(node));
            handovers += served.startsWith("throws") ? 0 : Long.parseLong(served);
            compare("handovers(" + node + ")", a -> a.handovers(node), b -> b.handovers(node));
        }
        for (int message = 0; message < plain.messages(); message++) {
            int asked = message;
            arrivals += outcome(plain, b -> b.arrivedAt(asked)).startsWith("throws") ? 0 : 1;
        }
    }

    private void compare(String call, ToLongFunction<Satellitering> asked, ToLongFunction<PlainRing> due) {
        calls++;
        Checks.due("run " + run + ", call " + calls + ": " + call, outcome(plain, due), Checks.outcome(x, asked));
    }

    private static String outcome(PlainRing plain, ToLongFunction<PlainRing> call) {
        try {
            return Long.toString(call.applyAsLong(plain));
        } catch (RuntimeException e) {
            return "throws." + e.getClass().getSimpleName();
        }
    }
}
