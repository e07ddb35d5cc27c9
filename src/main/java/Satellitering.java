import java.util.Arrays;
import java.util.NoSuchElementException;

/** Relays that move on a ring and carry messages between stations, as DOC.md promises it. */
public final class Satellitering {
    public static final int NONE = -1;

    private static final int PLACES = 360;
    /** Every speed is whole, so each relay is at its first place again after so many minutes. */
    private static final int PERIOD = 360;
    private static final int MAX_STATIONS = 4;
    private static final int MAX_RELAYS = 6;
    private static final int MAX_NODES = MAX_STATIONS + MAX_RELAYS;
    private static final int MAX_SPEED = 30;
    private static final int MAX_REACH = 179;
    private static final int MAX_CAPACITY = 9;
    private static final int MAX_MESSAGES = 20;
    private static final int MAX_PASS = 30;
    private static final int LAST_MINUTE = 1000000;
    /** A way in time that takes longer than this does not count. */
    private static final int HORIZON = 400;

    private final Sky sky = new Sky();
    private final Search search = new Search(sky);
    /** By the number of the node; null where that is a relay. */
    private final Station[] stations = new Station[MAX_NODES];
    private final int[] capacities = new int[MAX_NODES];
    private final Message[] sent = new Message[MAX_MESSAGES];
    private int stationCount = 0;
    private int relayCount = 0;
    private int sentCount = 0;
    private int now = 0;

    public Satellitering() {
    }

    // ---- nodes

    public int addStation(int place) throws IllegalArgumentException, IllegalStateException {
        requireArgument(inRange(place, 0, PLACES - 1));
        if (stationCount >= MAX_STATIONS) {
            throw new IllegalStateException("there are 4 stations");
        }
        int node = sky.addNode(place, 0, NONE);
        Station station = new Station(new Timetable(sky, node));
        stations[node] = station;
        stationCount++;
        lookForRelay(node, station);
        return node;
    }

    public int addRelay(int place, int speed, int reach, int capacity)
            throws IllegalArgumentException, IllegalStateException {
        requireArgument(inRange(place, 0, PLACES - 1));
        requireArgument(inRange(speed, -MAX_SPEED, MAX_SPEED));
        requireArgument(inRange(reach, 0, MAX_REACH));
        requireArgument(inRange(capacity, 1, MAX_CAPACITY));
        if (relayCount >= MAX_RELAYS) {
            throw new IllegalStateException("there are 6 relays");
        }
        int node = sky.addNode(place, speed, reach);
        capacities[node] = capacity;
        relayCount++;
        return node;
    }

    public int setCapacity(int relay, int capacity) throws IndexOutOfBoundsException, IllegalArgumentException {
        requireNode(relay);
        if (stations[relay] != null) {
            throw new IndexOutOfBoundsException("the node is a station");
        }
        requireArgument(inRange(capacity, 1, MAX_CAPACITY));
        int before = capacities[relay];
        capacities[relay] = capacity;
        return before;
    }

    public int nodes() {
        return sky.count;
    }

    public int placeAt(int node, int minute) throws IndexOutOfBoundsException, IllegalArgumentException {
        requireNode(node);
        requireMinute(minute);
        return sky.placeOf(node, minute);
    }

    // ---- contacts

    public boolean see(int node, int other, int minute) throws IndexOutOfBoundsException, IllegalArgumentException {
        requireTwoNodesAndMinute(node, other, minute);
        return sky.inContact(node, other, minute);
    }

    public int nextContact(int node, int other, int minute) throws IndexOutOfBoundsException, IllegalArgumentException {
        requireTwoNodesAndMinute(node, other, minute);
        return sky.firstContact(node, other, minute);
    }

    public int view(int node, int other, int minute) throws IndexOutOfBoundsException, IllegalArgumentException {
        requireTwoNodesAndMinute(node, other, minute);
        return sky.contactLength(node, other, minute);
    }

    // ---- ways in time

    public int arrival(int node, int other, int minute) throws IndexOutOfBoundsException, IllegalArgumentException {
        requireTwoNodesAndMinute(node, other, minute);
        return search.byContacts(node, other, minute);
    }

    public int arrivalByFlooding(int node, int other, int minute)
            throws IndexOutOfBoundsException, IllegalArgumentException {
        requireTwoNodesAndMinute(node, other, minute);
        return search.byFlooding(node, other, minute);
    }

    public int spread(int node, int minute, int later) throws IndexOutOfBoundsException, IllegalArgumentException {
        requireNode(node);
        requireMinute(minute);
        requireArgument(inRange(later, 0, HORIZON));
        return Integer.bitCount(search.flooded(node, minute, later));
    }

    // ---- messages

    public int send(int station, int other)
            throws IndexOutOfBoundsException, IllegalArgumentException, IllegalStateException {
        requireStation(station);
        Station goal = requireStation(other);
        requireArgument(station != other);
        if (sentCount >= MAX_MESSAGES) {
            throw new IllegalStateException("there are 20 messages");
        }
        int number = sentCount;
        sent[number] = new Message(station, other, goal.timetable);
        sentCount++;
        return number;
    }

    public int pass(int minutes) throws IllegalArgumentException, IllegalStateException {
        requireArgument(inRange(minutes, 1, MAX_PASS));
        if (now + minutes > LAST_MINUTE) {
            throw new IllegalStateException("now would be above 1000000");
        }
        int arrived = 0;
        for (int passed = 0; passed < minutes; passed++) {
            arrived += passOneMinute();
        }
        return arrived;
    }

    public int now() {
        return now;
    }

    public int messages() {
        return sentCount;
    }

    public int nodeOf(int message) throws IndexOutOfBoundsException {
        return requireMessage(message).node;
    }

    public int arrivedAt(int message) throws IndexOutOfBoundsException, java.util.NoSuchElementException {
        Message asked = requireMessage(message);
        if (!asked.isAtGoal()) {
            throw new NoSuchElementException("the message has not arrived");
        }
        return asked.since;
    }

    public int hops(int message) throws IndexOutOfBoundsException {
        return requireMessage(message).hopCount;
    }

    public int hopNode(int message, int hop) throws IndexOutOfBoundsException {
        Message asked = requireMessage(message);
        requireHop(asked, hop);
        return asked.hopNodes[hop];
    }

    public int hopMinute(int message, int hop) throws IndexOutOfBoundsException {
        Message asked = requireMessage(message);
        requireHop(asked, hop);
        return asked.hopMinutes[hop];
    }

    public int blocked(int message) throws IndexOutOfBoundsException {
        return requireMessage(message).blocks;
    }

    public int load(int node) throws IndexOutOfBoundsException {
        requireNode(node);
        return messagesAt(node);
    }

    // ---- serving

    public int relayOf(int station) throws IndexOutOfBoundsException {
        return requireStation(station).relay;
    }

    public int handovers(int station) throws IndexOutOfBoundsException {
        return requireStation(station).handoverCount;
    }

    // ---- what a minute does

    /** Returns how many messages arrived. */
    private int passOneMinute() {
        int arrived = 0;
        for (int number = 0; number < sentCount; number++) {
            Message message = sent[number];
            if (!message.isAtGoal()) {
                moveOn(message);
                arrived += message.isAtGoal() ? 1 : 0;
            }
        }
        now++;
        for (int node = 0; node < sky.count; node++) {
            Station station = stations[node];
            if (station != null) {
                lookForRelay(node, station);
            }
        }
        return arrived;
    }

    private void moveOn(Message message) {
        int next = message.timetable.nextNode(message.node, now);
        if (next == NONE) {
            return;
        }
        if (isFull(next)) {
            message.blocks++;
        } else {
            message.handTo(next, now);
        }
    }

    private boolean isFull(int node) {
        return stations[node] == null && messagesAt(node) >= capacities[node];
    }

    private int messagesAt(int node) {
        int found = 0;
        for (int number = 0; number < sentCount; number++) {
            found += sent[number].node == node ? 1 : 0;
        }
        return found;
    }

    private void lookForRelay(int node, Station station) {
        if (station.relay != NONE && sky.inContact(node, station.relay, now)) {
            return;
        }
        int best = NONE;
        int longest = 0;
        // a station is never in contact with a station, so only relays can win
        for (int other = 0; other < sky.count; other++) {
            int length = sky.contactLength(node, other, now);
            if (length > longest) {
                longest = length;
                best = other;
            }
        }
        if (best != NONE && station.relay != NONE) {
            station.handoverCount++;
        }
        station.relay = best;
    }

    // ---- what a call may be asked

    private static boolean inRange(int value, int least, int most) {
        return value >= least && value <= most;
    }

    private static void requireArgument(boolean allowed) {
        if (!allowed) {
            throw new IllegalArgumentException("an argument is not allowed");
        }
    }

    private static void requireMinute(int minute) {
        requireArgument(inRange(minute, 0, LAST_MINUTE));
    }

    private void requireNode(int node) {
        if (!inRange(node, 0, sky.count - 1)) {
            throw new IndexOutOfBoundsException("there is no such node");
        }
    }

    private void requireTwoNodesAndMinute(int node, int other, int minute) {
        requireNode(node);
        requireNode(other);
        requireMinute(minute);
    }

    private Station requireStation(int node) {
        requireNode(node);
        Station station = stations[node];
        if (station == null) {
            throw new IndexOutOfBoundsException("the node is no station");
        }
        return station;
    }

    private Message requireMessage(int number) {
        if (!inRange(number, 0, sentCount - 1)) {
            throw new IndexOutOfBoundsException("there is no such message");
        }
        return sent[number];
    }

    private static void requireHop(Message message, int hop) {
        if (!inRange(hop, 0, message.hopCount - 1)) {
            throw new IndexOutOfBoundsException("there is no such hop");
        }
    }

    /** The nodes on the ring, and who sees whom at which minute. */
    private static final class Sky {
        private final int[] places = new int[MAX_NODES];
        private final int[] speeds = new int[MAX_NODES];
        /** NONE for a station. */
        private final int[] reaches = new int[MAX_NODES];
        /** By node and minute of the period: a bit for every node that it sees then. */
        private final int[][] seen = new int[MAX_NODES][PERIOD];
        private int count = 0;

        /** There must be less than MAX_NODES nodes. */
        int addNode(int place, int speed, int reach) {
            int node = count;
            places[node] = place;
            speeds[node] = speed;
            reaches[node] = reach;
            count++;
            for (int other = 0; other < node; other++) {
                markContacts(node, other);
            }
            return node;
        }

        private void markContacts(int node, int other) {
            int reach = commonReach(node, other);
            for (int minute = 0; minute < PERIOD; minute++) {
                if (distance(placeOf(node, minute), placeOf(other, minute)) <= reach) {
                    seen[node][minute] |= 1 << other;
                    seen[other][minute] |= 1 << node;
                }
            }
        }

        /** NONE, which no distance is as low as, for two stations. */
        private int commonReach(int node, int other) {
            if (reaches[node] == NONE) {
                return reaches[other];
            }
            if (reaches[other] == NONE) {
                return reaches[node];
            }
            return Math.min(reaches[node], reaches[other]);
        }

        private static int distance(int place, int other) {
            int steps = Math.abs(place - other);
            return Math.min(steps, PLACES - steps);
        }

        int placeOf(int node, int minute) {
            return Math.floorMod(places[node] + minute * speeds[node], PLACES);
        }

        int seenFrom(int node, int minute) {
            return seen[node][minute % PERIOD];
        }

        boolean inContact(int node, int other, int minute) {
            return (seenFrom(node, minute) >> other & 1) != 0;
        }

        int firstContact(int node, int other, int minute) {
            for (int later = 0; later < PERIOD; later++) {
                if (inContact(node, other, minute + later)) {
                    return minute + later;
                }
            }
            return NONE;
        }

        int contactLength(int node, int other, int minute) {
            for (int length = 0; length < PERIOD; length++) {
                if (!inContact(node, other, minute + length)) {
                    return length;
                }
            }
            return PERIOD;
        }
    }

    /** Finds ways in time that start at one node at one minute. */
    private static final class Search {
        private final Sky sky;
        /** The minute at which each node is come to, as far as byContacts knows yet. */
        private final int[] reached = new int[MAX_NODES];

        Search(Sky sky) {
            this.sky = sky;
        }

        int byContacts(int node, int other, int minute) {
            int tooLate = minute + HORIZON + 1;
            Arrays.fill(reached, tooLate);
            reached[node] = minute;
            int gone = 0;
            for (int round = 0; round < sky.count; round++) {
                int first = earliestReached(gone, tooLate);
                if (first == NONE || first == other) {
                    break;
                }
                gone |= 1 << first;
                goOnFrom(first, gone);
            }
            return reached[other] < tooLate ? reached[other] : NONE;
        }

        /** Of the nodes that were not yet gone on from; NONE if none of them is come to in time. */
        private int earliestReached(int gone, int tooLate) {
            int earliest = NONE;
            int least = tooLate;
            for (int node = 0; node < sky.count; node++) {
                if ((gone >> node & 1) == 0 && reached[node] < least) {
                    least = reached[node];
                    earliest = node;
                }
            }
            return earliest;
        }

        private void goOnFrom(int node, int gone) {
            for (int other = 0; other < sky.count; other++) {
                if ((gone >> other & 1) == 0) {
                    int contact = sky.firstContact(node, other, reached[node]);
                    if (contact != NONE && contact + 1 < reached[other]) {
                        reached[other] = contact + 1;
                    }
                }
            }
        }

        int byFlooding(int node, int other, int minute) {
            int there = 1 << node;
            for (int later = 0; later <= HORIZON; later++) {
                if ((there >> other & 1) != 0) {
                    return minute + later;
                }
                there = floodedNext(there, minute + later);
            }
            return NONE;
        }

        /** Returns a bit for every node that can be come to. */
        int flooded(int node, int minute, int later) {
            int there = 1 << node;
            for (int passed = 0; passed < later; passed++) {
                there = floodedNext(there, minute + passed);
            }
            return there;
        }

        private int floodedNext(int there, int minute) {
            int next = there;
            for (int node = 0; node < sky.count; node++) {
                if ((there >> node & 1) != 0) {
                    next |= sky.seenFrom(node, minute);
                }
            }
            return next;
        }
    }

    /**
     * The earliest arrivals at one station from all nodes at all minutes of the period, reckoned
     * at once: messages ask for them at every minute, too often for a search each time.
     */
    private static final class Timetable {
        private final Sky sky;
        private final int goal;
        /** By node and minute of the period: minutes until the earliest arrival, or NONE. */
        private final int[][] left = new int[MAX_NODES][PERIOD];
        private int[] soonest = new int[MAX_NODES];
        private int[] soonestBefore = new int[MAX_NODES];
        /** Nodes never go, so their number tells whether the table is of today's ring. */
        private int nodesKnown = 0;

        Timetable(Sky sky, int goal) {
            this.sky = sky;
            this.goal = goal;
        }

        /** The node to which something at a node must be handed now; NONE if it should wait. */
        int nextNode(int node, int minute) {
            if (nodesKnown != sky.count) {
                reckon();
            }
            int nowLeft = left[node][minute % PERIOD];
            int next = (minute + 1) % PERIOD;
            if (nowLeft < 1 || left[node][next] == nowLeft - 1) {
                return NONE;
            }
            for (int other = 0; other < sky.count; other++) {
                if (sky.inContact(node, other, minute) && left[other][next] == nowLeft - 1) {
                    return other;
                }
            }
            return NONE;
        }

        /** Goes back in time from a minute that is too late for every minute of the period. */
        private void reckon() {
            int end = PERIOD + HORIZON;
            Arrays.fill(soonest, end);
            for (int minute = end - 1; minute >= 0; minute--) {
                stepBack(minute);
                if (minute < PERIOD) {
                    writeDown(minute);
                }
            }
            nodesKnown = sky.count;
        }

        /** Turns the earliest arrivals from the next minute into those from this one. */
        private void stepBack(int minute) {
            for (int node = 0; node < sky.count; node++) {
                int seen = sky.seenFrom(node, minute);
                soonestBefore[node] = node == goal ? minute : soonestThrough(node, seen);
            }
            int[] spare = soonest;
            soonest = soonestBefore;
            soonestBefore = spare;
        }

        private int soonestThrough(int node, int seen) {
            int least = soonest[node];
            for (int other = 0; other < sky.count; other++) {
                if ((seen >> other & 1) != 0 && soonest[other] < least) {
                    least = soonest[other];
                }
            }
            return least;
        }

        private void writeDown(int minute) {
            for (int node = 0; node < sky.count; node++) {
                int wait = soonest[node] - minute;
                left[node][minute] = wait <= HORIZON ? wait : NONE;
            }
        }
    }

    private static final class Station {
        private final Timetable timetable;
        private int relay = NONE;
        private int handoverCount = 0;

        Station(Timetable timetable) {
            this.timetable = timetable;
        }
    }

    private static final class Message {
        private final int goal;
        private final Timetable timetable;
        private int node;
        /** The minute from which on it is at its node, if it was ever handed on. */
        private int since = 0;
        private int blocks = 0;
        private int hopCount = 0;
        private int[] hopNodes = new int[8];
        private int[] hopMinutes = new int[8];

        Message(int station, int goal, Timetable timetable) {
            this.node = station;
            this.goal = goal;
            this.timetable = timetable;
        }

        boolean isAtGoal() {
            return node == goal;
        }

        void handTo(int next, int minute) {
            if (hopCount >= hopNodes.length) {
                hopNodes = Arrays.copyOf(hopNodes, 2 * hopCount);
                hopMinutes = Arrays.copyOf(hopMinutes, 2 * hopCount);
            }
            hopNodes[hopCount] = next;
            hopMinutes[hopCount] = minute;
            hopCount++;
            node = next;
            since = minute + 1;
        }
    }
}
