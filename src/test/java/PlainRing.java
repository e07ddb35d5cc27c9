import java.util.ArrayList;
import java.util.HashMap;
import java.util.List;
import java.util.Map;
import java.util.NoSuchElementException;

/** The document said again as slowly and plainly as can be: what the class must answer in random runs. */
final class PlainRing {
    private static final int NONE = -1;

    private static final class Node {
        boolean station;
        long place;
        long speed;
        int reach;
        int capacity;
        int relay = NONE;
        int handovers;
    }

    private static final class Message {
        int node;
        int goal;
        int arrived = NONE;
        int blocked;
        List<int[]> hops = new ArrayList<>();
    }

    private final List<Node> nodes = new ArrayList<>();
    private final List<Message> messages = new ArrayList<>();
    private final Map<Long, Integer> earliestKnown = new HashMap<>();
    private int now = 0;

    int addStation(int place) {
        argument(0 <= place && place <= 359);
        state(nodes.stream().filter(n -> n.station).count() < 4);
        Node node = new Node();
        node.station = true;
        node.place = place;
        int number = add(node);
        serve(number);
        return number;
    }

    int addRelay(int place, int speed, int reach, int capacity) {
        argument(0 <= place && place <= 359 && -30 <= speed && speed <= 30);
        argument(0 <= reach && reach <= 179 && 1 <= capacity && capacity <= 9);
        state(nodes.stream().filter(n -> !n.station).count() < 6);
        Node node = new Node();
        node.place = place;
        node.speed = speed;
        node.reach = reach;
        node.capacity = capacity;
        return add(node);
    }

    private int add(Node node) {
        earliestKnown.clear();
        nodes.add(node);
        return nodes.size() - 1;
    }

    int setCapacity(int relay, int capacity) {
        node(relay);
        index(!nodes.get(relay).station);
        argument(1 <= capacity && capacity <= 9);
        int before = nodes.get(relay).capacity;
        nodes.get(relay).capacity = capacity;
        return before;
    }

    int nodes() {
        return nodes.size();
    }

    int placeAt(int node, int minute) {
        node(node);
        minute(minute);
        return place(node, minute);
    }

    private int place(int node, int minute) {
        Node n = nodes.get(node);
        return (int) (((n.place + n.speed * minute) % 360 + 360) % 360);
    }

    boolean see(int node, int other, int minute) {
        node(node);
        node(other);
        minute(minute);
        return sees(node, other, minute);
    }

    private boolean sees(int node, int other, int minute) {
        Node a = nodes.get(node);
        Node b = nodes.get(other);
        if (node == other || a.station && b.station) {
            return false;
        }
        int reach = a.station ? b.reach : b.station ? a.reach : a.reach < b.reach ? a.reach : b.reach;
        int p = place(node, minute);
        int q = place(other, minute);
        int up = (q - p + 360) % 360;
        int down = (p - q + 360) % 360;
        return up <= reach || down <= reach;
    }

    int nextContact(int node, int other, int minute) {
        see(node, other, minute);
        for (int later = 0; later < 1000; later++) {
            if (sees(node, other, minute + later)) {
                return minute + later;
            }
        }
        return NONE;
    }

    int view(int node, int other, int minute) {
        see(node, other, minute);
        return seenFor(node, other, minute);
    }

    private int seenFor(int node, int other, int minute) {
        int length = 0;
        while (length < 360 && sees(node, other, minute + length)) {
            length++;
        }
        return length;
    }

    int arrival(int node, int other, int minute) {
        see(node, other, minute);
        return earliest(node, other, minute);
    }

    int spread(int node, int minute, int later) {
        node(node);
        minute(minute);
        argument(0 <= later && later <= 400);
        boolean[] there = new boolean[nodes.size()];
        there[node] = true;
        for (int t = minute; t < minute + later; t++) {
            there = told(there, t);
        }
        int count = 0;
        for (boolean is : there) {
            count += is ? 1 : 0;
        }
        return count;
    }

    private boolean[] told(boolean[] there, int minute) {
        boolean[] next = there.clone();
        for (int a = 0; a < there.length; a++) {
            for (int b = 0; there[a] && b < there.length; b++) {
                next[b] = next[b] || sees(a, b, minute);
            }
        }
        return next;
    }

    private int earliest(int node, int other, int minute) {
        long key = (minute * 10L + node) * 10L + other;
        Integer known = earliestKnown.get(key);
        if (known != null) {
            return known;
        }
        int found = NONE;
        boolean[] there = new boolean[nodes.size()];
        there[node] = true;
        for (int t = minute; t <= minute + 400 && found == NONE; t++) {
            found = there[other] ? t : NONE;
            there = told(there, t);
        }
        earliestKnown.put(key, found);
        return found;
    }

    int send(int station, int other) {
        station(station);
        station(other);
        argument(station != other);
        state(messages.size() < 20);
        Message message = new Message();
        message.node = station;
        message.goal = other;
        messages.add(message);
        return messages.size() - 1;
    }

    int pass(int minutes) {
        argument(1 <= minutes && minutes <= 30);
        state(now + minutes <= 1000000);
        int arrived = 0;
        for (int i = 0; i < minutes; i++) {
            for (Message message : messages) {
                if (message.arrived == NONE) {
                    step(message);
                    arrived += message.arrived == NONE ? 0 : 1;
                }
            }
            now++;
            for (int node = 0; node < nodes.size(); node++) {
                serve(node);
            }
        }
        return arrived;
    }

    private void step(Message message) {
        int here = earliest(message.node, message.goal, now);
        int waiting = earliest(message.node, message.goal, now + 1);
        if (here == NONE || waiting != NONE && waiting <= here) {
            return;
        }
        for (int other = 0; other < nodes.size(); other++) {
            if (sees(message.node, other, now) && earliest(other, message.goal, now + 1) == here) {
                if (!nodes.get(other).station && held(other) >= nodes.get(other).capacity) {
                    message.blocked++;
                    return;
                }
                message.hops.add(new int[] {other, now});
                message.node = other;
                message.arrived = other == message.goal ? now + 1 : NONE;
                return;
            }
        }
        throw new AssertionError("there is no way on");
    }

    private int held(int node) {
        int count = 0;
        for (Message message : messages) {
            count += message.node == node ? 1 : 0;
        }
        return count;
    }

    private void serve(int node) {
        Node station = nodes.get(node);
        if (!station.station || station.relay != NONE && sees(node, station.relay, now)) {
            return;
        }
        int best = NONE;
        for (int other = nodes.size() - 1; other >= 0; other--) {
            if (sees(node, other, now)
                    && (best == NONE || seenFor(node, other, now) >= seenFor(node, best, now))) {
                best = other;
            }
        }
        station.handovers += station.relay != NONE && best != NONE ? 1 : 0;
        station.relay = best;
    }

    int now() {
        return now;
    }

    int messages() {
        return messages.size();
    }

    int nodeOf(int message) {
        return message(message).node;
    }

    int arrivedAt(int message) {
        int arrived = message(message).arrived;
        if (arrived == NONE) {
            throw new NoSuchElementException();
        }
        return arrived;
    }

    int hops(int message) {
        return message(message).hops.size();
    }

    int hopNode(int message, int hop) {
        index(0 <= hop && hop < hops(message));
        return message(message).hops.get(hop)[0];
    }

    int hopMinute(int message, int hop) {
        index(0 <= hop && hop < hops(message));
        return message(message).hops.get(hop)[1];
    }

    int blocked(int message) {
        return message(message).blocked;
    }

    int load(int node) {
        node(node);
        return held(node);
    }

    int relayOf(int station) {
        station(station);
        return nodes.get(station).relay;
    }

    int handovers(int station) {
        station(station);
        return nodes.get(station).handovers;
    }

    private Message message(int message) {
        index(0 <= message && message < messages.size());
        return messages.get(message);
    }

    private void station(int node) {
        node(node);
        index(nodes.get(node).station);
    }

    private void node(int node) {
        index(0 <= node && node < nodes.size());
    }

    private static void minute(int minute) {
        argument(0 <= minute && minute <= 1000000);
    }

    private static void index(boolean fine) {
        if (!fine) {
            throw new IndexOutOfBoundsException();
        }
    }

    private static void argument(boolean fine) {
        if (!fine) {
            throw new IllegalArgumentException();
        }
    }

    private static void state(boolean fine) {
        if (!fine) {
            throw new IllegalStateException();
        }
    }
}
