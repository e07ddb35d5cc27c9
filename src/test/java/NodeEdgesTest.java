import java.util.function.ToLongFunction;

/** Promises 1 to 5, and what the document says of an object as a whole: each sentence has a method of its own. */
public final class NodeEdgesTest {
    public static void main(String[] args) {
        aNewObjectIsEmpty();
        aNewObjectBesideAnother();
        nowIs0AtFirst();
        addsAStation();
        addsARelay();
        aRelayThatIsAddedLater();
        aRelayThatIsAddedMakesWaysShorter();
        aStationThatIsAddedMakesWaysShorter();
        returnsTheCapacityBefore();
        changesTheCapacityOfThatRelay();
        changesTheCapacityAndNothingElse();
        messagesThatAreAtItStay();
        howManyNodesThereAre();
        howManyMessagesWereSent();
        questionsChangeNothing();
        Checks.end();
    }

    /** Stations 0 and 1, and relays 2 and 3 that see both always; the first can hold 2 messages, the second 5. */
    private static Satellitering pair() {
        Satellitering x = new Satellitering();
        x.addStation(0);
        x.addStation(20);
        x.addRelay(10, 0, 10, 2);
        x.addRelay(10, 0, 10, 5);
        return x;
    }

    private static void due(String what, long want, Satellitering x, ToLongFunction<Satellitering> call) {
        Checks.due(what, Long.toString(want), Checks.outcome(x, call));
    }

    private static void noIndex(String what, Satellitering x, ToLongFunction<Satellitering> call) {
        Checks.due(what, "throws.IndexOutOfBoundsException", Checks.outcome(x, call));
    }

    private static void empty(String what, Satellitering x) {
        Checks.due("nodes() " + what, 0, x.nodes());
        Checks.due("messages() " + what, 0, x.messages());
        Checks.due("now() " + what, 0, x.now());
        noIndex("placeAt(0, 0) " + what, x, y -> y.placeAt(0, 0));
        noIndex("setCapacity(0, 1) " + what, x, y -> y.setCapacity(0, 1));
        noIndex("arrival(0, 0, 0) " + what, x, y -> y.arrival(0, 0, 0));
        noIndex("load(0) " + what, x, y -> y.load(0));
        noIndex("relayOf(0) " + what, x, y -> y.relayOf(0));
        noIndex("nodeOf(0) " + what, x, y -> y.nodeOf(0));
        noIndex("arrivedAt(0) " + what, x, y -> y.arrivedAt(0));
    }

    /** Promise 1, "Begins without nodes and messages, at minute 0." */
    private static void aNewObjectIsEmpty() {
        empty("of a new object", new Satellitering());
        due("the first station", 0, new Satellitering(), x -> x.addStation(0));
        due("the first relay", 0, new Satellitering(), x -> x.addRelay(0, 0, 0, 1));
        due("pass(30) without nodes", 0, new Satellitering(), x -> x.pass(30));
    }

    /** The same when other objects are in use: none knows of another. */
    private static void aNewObjectBesideAnother() {
        Satellitering before = new Satellitering();
        Satellitering used = pair();
        used.send(0, 1);
        used.pass(1);
        Satellitering behind = new Satellitering();
        empty("of an object that was made before another", before);
        empty("of an object that was made behind another", behind);
        String state = Checks.state(used);
        behind.addRelay(0, 30, 179, 9);
        behind.addStation(5);
        behind.addStation(6);
        behind.send(2, 1);
        behind.pass(30);
        Checks.due("the state of the other one", state, Checks.state(used));
        due("pass(1) of the other one", 1, used, x -> x.pass(1));
    }

    /** "Time is counted in minutes, now is 0 at first.": it goes on by what is passed, and by nothing else. */
    private static void nowIs0AtFirst() {
        Satellitering x = pair();
        x.send(0, 1);
        Checks.due("now() at first", 0, x.now());
        int now = 0;
        for (int minutes : new int[] {1, 30, 2, 29, 17}) {
            x.pass(minutes);
            now += minutes;
            Checks.due("now() after pass(" + minutes + ")", now, x.now());
        }
        x.send(1, 0);
        x.addStation(7);
        x.addRelay(7, 7, 7, 7);
        x.setCapacity(2, 1);
        Checks.due("now() after other calls", now, x.now());
    }

    /** Promise 2, "Adds a station.": at each place, one more node, which has no relay and no message yet. */
    private static void addsAStation() {
        for (int place = 0; place < 360; place++) {
            Satellitering x = new Satellitering();
            x.addRelay(0, 0, 0, 1);
            Checks.due("addStation(" + place + ")", 1, x.addStation(place));
            Checks.due("nodes() behind it", 2, x.nodes());
            Checks.due("placeAt of the station", place, x.placeAt(1, 0));
            Checks.due("load of the station", 0, x.load(1));
            Checks.due("handovers of the station", 0, x.handovers(1));
            Checks.due("relayOf the station", place == 0 ? 0 : -1, x.relayOf(1));
        }
    }

    /** Promise 3, "Adds a relay.": it has the place, the speed, the reach and the capacity that are given. */
    private static void addsARelay() {
        int[][] relays = {{0, -30, 0, 1}, {359, 30, 179, 9}, {180, 0, 178, 8}, {1, -1, 1, 2}, {358, 29, 90, 5}};
        for (int[] r : relays) {
            Satellitering x = new Satellitering();
            x.addStation(Math.floorMod(r[0] + r[2], 360));
            x.addStation(Math.floorMod(r[0] + r[2] + 1, 360));
            Checks.due("the number of the relay", 2, x.addRelay(r[0], r[1], r[2], r[3]));
            Checks.due("nodes() behind it", 3, x.nodes());
            Checks.due("its place", r[0], x.placeAt(2, 0));
            Checks.due("its place a minute later", Math.floorMod(r[0] + r[1], 360), x.placeAt(2, 1));
            Checks.due("a station at its reach", true, x.see(0, 2, 0));
            Checks.due("a station beyond its reach", false, x.see(1, 2, 0));
            Checks.due("its load", 0, x.load(2));
            Checks.due("its capacity", r[3], x.setCapacity(2, 1));
        }
    }

    /** It is seen at all minutes as if it had been there from the minute 0 on. */
    private static void aRelayThatIsAddedLater() {
        Satellitering first = pair();
        first.addRelay(300, 7, 60, 1);
        first.pass(30);
        Satellitering later = pair();
        later.pass(30);
        later.addRelay(300, 7, 60, 1);
        for (int minute = 0; minute < 400; minute++) {
            int t = minute;
            for (int node = 0; node < 5; node++) {
                int other = node;
                due("placeAt(4, " + t + ")", first.placeAt(4, t), later, x -> x.placeAt(4, t));
                due("view(4, " + node + ", " + t + ")", first.view(4, other, t), later, x -> x.view(4, other, t));
                due("arrival(4, " + node + ", " + t + ")", first.arrival(4, other, t), later,
                        x -> x.arrival(4, other, t));
            }
        }
    }

    /** A relay that is added counts for messages that are on their way. */
    private static void aRelayThatIsAddedMakesWaysShorter() {
        Satellitering x = new Satellitering();
        x.addStation(0);
        x.addStation(100);
        x.addRelay(0, 1, 10, 1);
        x.send(0, 1);
        x.pass(20);
        Checks.due("nodeOf(0) at 20", 2, x.nodeOf(0));
        Checks.due("arrival(2, 1, 20) before", 91, x.arrival(2, 1, 20));
        // it sees the other one, which is at 20, and the station at 100
        x.addRelay(25, 0, 75, 1);
        Checks.due("arrival(2, 1, 20) by the new one", 22, x.arrival(2, 1, 20));
        Checks.due("pass(1)", 0, x.pass(1));
        Checks.due("nodeOf(0) at 21", 3, x.nodeOf(0));
        Checks.due("pass(1)", 1, x.pass(1));
        Checks.due("arrivedAt(0)", 22, x.arrivedAt(0));
    }

    /** So does a station: the first relay leaves the message there, and the second one takes it on. */
    private static void aStationThatIsAddedMakesWaysShorter() {
        Satellitering x = new Satellitering();
        x.addStation(20);
        x.addRelay(20, -1, 0, 1);
        x.addRelay(76, -6, 0, 1);
        x.addStation(358);
        x.send(0, 3);
        x.pass(5);
        Checks.due("nodeOf(0) at 5", 1, x.nodeOf(0));
        Checks.due("arrival(1, 3, 5) before", 23, x.arrival(1, 3, 5));
        x.addStation(10);
        Checks.due("arrival(1, 3, 5) by the new one", 14, x.arrival(1, 3, 5));
        Checks.due("pass(8)", 0, x.pass(8));
        Checks.due("pass(1)", 1, x.pass(1));
        Checks.due("arrivedAt(0)", 14, x.arrivedAt(0));
        Checks.due("hops(0)", 4, x.hops(0));
    }

    /** Promise 4, "Returns the capacity before.": of each to each. */
    private static void returnsTheCapacityBefore() {
        for (int before = 1; before <= 9; before++) {
            for (int capacity = 1; capacity <= 9; capacity++) {
                Satellitering x = new Satellitering();
                x.addRelay(0, 0, 0, before);
                Checks.due("setCapacity(0, " + capacity + ")", before, x.setCapacity(0, capacity));
                Checks.due("setCapacity behind it", capacity, x.setCapacity(0, before));
                Checks.due("setCapacity to the same", before, x.setCapacity(0, before));
            }
        }
    }

    /** Promise 4, "Changes the capacity of a relay": of that one alone, and from then on. */
    private static void changesTheCapacityOfThatRelay() {
        Satellitering x = new Satellitering();
        for (int i = 0; i < 6; i++) {
            x.addRelay(0, 0, 0, 1 + i);
        }
        x.setCapacity(3, 9);
        for (int i = 0; i < 6; i++) {
            Checks.due("the capacity of " + i, i == 3 ? 9 : 1 + i, x.setCapacity(i, 1));
        }
        for (int capacity = 1; capacity <= 9; capacity++) {
            Satellitering y = pair();
            for (int i = 0; i < 20; i++) {
                y.send(0, 1);
            }
            y.setCapacity(2, capacity);
            y.pass(1);
            Checks.due("load(2) with the capacity " + capacity, capacity, y.load(2));
        }
    }

    /** It moves no message and no relay, and lets no minute pass. */
    private static void changesTheCapacityAndNothingElse() {
        Satellitering x = pair();
        x.send(0, 1);
        x.pass(1);
        x.send(1, 0);
        String state = Checks.state(x);
        x.setCapacity(3, 9);
        Checks.due("the state behind setCapacity", state.replace("capacity 5", "capacity 9"), Checks.state(x));
    }

    /** Promise 4, "messages that are at it stay": however few it may hold from then on. */
    private static void messagesThatAreAtItStay() {
        Satellitering x = new Satellitering();
        x.addStation(0);
        x.addStation(50);
        x.addRelay(0, 1, 0, 9);
        for (int i = 0; i < 9; i++) {
            x.send(0, 1);
        }
        x.pass(1);
        for (int capacity = 8; capacity >= 1; capacity--) {
            x.setCapacity(2, capacity);
            Checks.due("load(2) with the capacity " + capacity, 9, x.load(2));
            x.pass(1);
            Checks.due("load(2) a minute later", 9, x.load(2));
        }
        for (int message = 0; message < 9; message++) {
            Checks.due("nodeOf(" + message + ")", 2, x.nodeOf(message));
            Checks.due("blocked(" + message + ")", 0, x.blocked(message));
        }
        x.pass(30);
        Checks.due("pass(12): all arrive", 9, x.pass(12));
    }

    /** Promise 5, "Returns how many nodes there are.": stations and relays. */
    private static void howManyNodesThereAre() {
        Satellitering x = new Satellitering();
        for (int i = 0; i < 10; i++) {
            Checks.due("nodes()", i, x.nodes());
            if (i % 3 == 0) {
                x.addStation(i);
            } else {
                x.addRelay(i, i, i, 1);
            }
        }
        Checks.due("nodes() of all", 10, x.nodes());
        x.send(0, 3);
        x.pass(30);
        Checks.due("nodes() later", 10, x.nodes());
    }

    /** Promise 16, "Returns how many messages were sent.": those that have arrived and those that have not. */
    private static void howManyMessagesWereSent() {
        Satellitering x = pair();
        for (int i = 0; i < 20; i++) {
            Checks.due("messages()", i, x.messages());
            x.send(i % 2, 1 - i % 2);
            x.pass(1 + i % 3);
        }
        Checks.due("messages() of all", 20, x.messages());
        x.pass(30);
        Checks.due("messages() when all have arrived", 20, x.messages());
    }

    /** No question changes an answer: "Nothing is promised beyond the answers and state changes described above" */
    private static void questionsChangeNothing() {
        Satellitering asked = pair();
        Satellitering spared = pair();
        asked.addRelay(340, 3, 30, 1);
        spared.addRelay(340, 3, 30, 1);
        for (int i = 0; i < 10; i++) {
            asked.send(i % 2, 1 - i % 2);
            spared.send(i % 2, 1 - i % 2);
            askAll(asked, 37 * i);
            Checks.due("pass(1)", spared.pass(1), asked.pass(1));
            askAll(asked, asked.now());
        }
        Checks.due("the state of an object that was asked much", Checks.state(spared), Checks.state(asked));
        Checks.due("pass(30)", spared.pass(30), asked.pass(30));
        Checks.due("the state later", Checks.state(spared), Checks.state(asked));
    }

    private static void askAll(Satellitering x, int minute) {
        for (int node = 0; node < x.nodes(); node++) {
            for (int other = 0; other < x.nodes(); other++) {
                x.see(node, other, minute);
                x.nextContact(node, other, minute);
                x.view(node, other, minute);
                x.arrival(node, other, minute);
                x.arrivalByFlooding(node, other, minute);
            }
            x.placeAt(node, minute);
            x.spread(node, minute, 400);
            x.load(node);
        }
        Checks.state(x);
    }
}
