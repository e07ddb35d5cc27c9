/** Promises 13 to 23: messages, the minutes that pass, and what becomes of messages in them. */
public final class MessagesTest {
    public static void main(String[] args) {
        send();
        pass();
        lastMinute();
        lowestNumber();
        fullBuffer();
        orderWithinAMinute();
        blockedAgainAndAgain();
        capacityChanged();
        throughAStation();
        noWay();
        for (int minute : new int[] {0, 1, 200, 358, 359, 360, 761}) {
            justInTime(minute);
        }
        fullRing();
        manyHops();
        refusals();
        Checks.end();
    }

    /** Stations 0 and 1 at 0 and 10; relays 2 and 3, with room for 1 and 9, both at 0 and going 1 a minute. */
    private static Satellitering pair() {
        Satellitering x = new Satellitering();
        x.addStation(0);
        x.addStation(10);
        x.addRelay(0, 1, 0, 1);
        x.addRelay(0, 1, 0, 9);
        return x;
    }

    private static void passAll(Satellitering x, int minutes) {
        for (int left = minutes; left > 0; left -= 30) {
            x.pass(Math.min(30, left));
        }
    }

    private static void send() {
        Satellitering x = pair();
        for (int i = 0; i < 20; i++) {
            Checks.due("messages() before message " + i, i, x.messages());
            Checks.due("send of message " + i, i, x.send(i % 2, 1 - i % 2));
            Checks.due("nodeOf message " + i, i % 2, x.nodeOf(i));
            Checks.due("hops of message " + i, 0, x.hops(i));
            Checks.due("blocked of message " + i, 0, x.blocked(i));
        }
        Checks.due("messages() at the end", 20, x.messages());
        Checks.due("load of station 0", 10, x.load(0));
        Checks.due("load of relay 2", 0, x.load(2));
        x.pass(20);
        Checks.due("messages() after some minutes", 20, x.messages());
    }

    private static Satellitering allSent() {
        Satellitering x = pair();
        for (int i = 0; i < 20; i++) {
            x.send(0, 1);
        }
        return x;
    }

    private static void pass() {
        Satellitering x = pair();
        x.send(0, 1);
        x.send(1, 0);
        Checks.due("pass(10)", 0, x.pass(10));
        Checks.due("now()", 10, x.now());
        Checks.due("pass(1)", 1, x.pass(1));
        Checks.due("now()", 11, x.now());
        for (int i = 0; i < 11; i++) {
            Checks.due("pass(30)", 0, x.pass(30));
        }
        Checks.due("now()", 341, x.now());
        // from 10 at the minute 10, at 0 at the minute 360
        Checks.due("pass(19)", 0, x.pass(19));
        Checks.due("load of station 0", 0, x.load(0));
        Checks.due("pass(30) at 360", 1, x.pass(30));
        Checks.due("arrivedAt(1)", 361, x.arrivedAt(1));
        Checks.due("load of station 0", 1, x.load(0));
        Checks.due("load of station 1", 1, x.load(1));
        Satellitering y = pair();
        y.send(0, 1);
        Checks.due("pass(30) over it all", 1, y.pass(30));
        Checks.due("arrivedAt(0)", 11, y.arrivedAt(0));
    }

    /** No object comes so far in 512 calls: the class has no such bound, so that its guard can be tried. */
    private static void lastMinute() {
        Satellitering x = new Satellitering();
        for (int i = 0; i < 33333; i++) {
            x.pass(30);
        }
        Checks.due("now()", 999990, x.now());
        Checks.due("pass(31)", "throws.IllegalArgumentException", Checks.thrownBy(x, y -> y.pass(31)));
        Checks.due("pass(11)", "throws.IllegalStateException", Checks.thrownBy(x, y -> y.pass(11)));
        Checks.due("now() after pass(11)", 999990, x.now());
        Checks.due("pass(10)", 0, x.pass(10));
        Checks.due("now()", 1000000, x.now());
        Checks.due("pass(1)", "throws.IllegalStateException", Checks.thrownBy(x, y -> y.pass(1)));
        Checks.due("pass(0)", "throws.IllegalArgumentException", Checks.thrownBy(x, y -> y.pass(0)));
        Checks.due("now() after pass(1)", 1000000, x.now());
    }

    private static void hop(Satellitering x, int message, int hop, int node, int minute) {
        String which = "(" + message + ", " + hop + ")";
        Checks.due("hopNode" + which, node, x.hopNode(message, hop));
        Checks.due("hopMinute" + which, minute, x.hopMinute(message, hop));
    }

    private static void lowestNumber() {
        Satellitering x = pair();
        x.send(0, 1);
        x.pass(1);
        Checks.due("nodeOf(0) at 1", 2, x.nodeOf(0));
        Checks.due("hops(0) at 1", 1, x.hops(0));
        x.pass(9);
        Checks.due("nodeOf(0) at 10", 2, x.nodeOf(0));
        Checks.due("hops(0) at 10", 1, x.hops(0));
        x.pass(1);
        Checks.due("nodeOf(0) at 11", 1, x.nodeOf(0));
        Checks.due("hops(0) at 11", 2, x.hops(0));
        hop(x, 0, 0, 2, 0);
        hop(x, 0, 1, 1, 10);
        x.pass(30);
        Checks.due("hops(0) when it has long arrived", 2, x.hops(0));
        Checks.due("arrivedAt(0) when it has long arrived", 11, x.arrivedAt(0));
    }

    private static void fullBuffer() {
        Satellitering x = pair();
        x.send(0, 1);
        x.send(0, 1);
        x.send(0, 1);
        x.pass(1);
        Checks.due("load of relay 2", 1, x.load(2));
        Checks.due("load of relay 3, which is as good but has not the lowest number", 0, x.load(3));
        Checks.due("load of station 0", 2, x.load(0));
        Checks.due("blocked(0)", 0, x.blocked(0));
        Checks.due("blocked(1)", 1, x.blocked(1));
        Checks.due("blocked(2)", 1, x.blocked(2));
        Checks.due("hops(1)", 0, x.hops(1));
        passAll(x, 359);
        Checks.due("blocked(1) at 360", 1, x.blocked(1));
        x.pass(1);
        Checks.due("nodeOf(1) at 361", 2, x.nodeOf(1));
        Checks.due("blocked(2) at 361", 2, x.blocked(2));
        passAll(x, 360);
        Checks.due("arrivedAt(1)", 371, x.arrivedAt(1));
        Checks.due("nodeOf(2) at 721", 2, x.nodeOf(2));
        Checks.due("blocked(2) at 721", 2, x.blocked(2));
    }

    /** One relay with room for 1 comes by the stations 0, 1 and 2 at the minutes 0, 10 and 20. */
    private static Satellitering row() {
        Satellitering x = new Satellitering();
        x.addStation(0);
        x.addStation(10);
        x.addStation(20);
        x.addRelay(0, 1, 0, 1);
        return x;
    }

    private static void orderWithinAMinute() {
        Satellitering x = row();
        x.send(0, 1);
        x.send(1, 2);
        Checks.due("pass(11)", 1, x.pass(11));
        Checks.due("nodeOf(1), as message 0 was just handed on", 3, x.nodeOf(1));
        Checks.due("blocked(1)", 0, x.blocked(1));
        hop(x, 1, 0, 3, 10);
        Satellitering y = row();
        y.send(1, 2);
        y.send(0, 1);
        Checks.due("pass(11)", 1, y.pass(11));
        Checks.due("nodeOf(0), as message 1 was yet there", 1, y.nodeOf(0));
        Checks.due("blocked(0)", 1, y.blocked(0));
        Checks.due("load of the relay", 0, y.load(3));
        Satellitering z = row();
        z.send(0, 1);
        z.send(0, 1);
        z.send(1, 2);
        z.pass(11);
        Checks.due("blocked(1)", 1, z.blocked(1));
        Checks.due("blocked(2)", 0, z.blocked(2));
    }

    /** The relay 2 of reach 5 sees station 0 to the minute 5, station 3 from 0 to 10 and station 4 from 1 to 11. */
    private static Satellitering slow() {
        Satellitering x = new Satellitering();
        x.addStation(0);
        x.addStation(100);
        x.addRelay(0, 1, 5, 1);
        x.addStation(5);
        x.addStation(6);
        x.send(0, 1);
        x.pass(6);
        x.send(3, 4);
        return x;
    }

    private static void blockedAgainAndAgain() {
        Satellitering x = slow();
        Checks.due("hopMinute(0, 0), as late as can be", 5, x.hopMinute(0, 0));
        for (int minute = 6; minute <= 10; minute++) {
            Checks.due("blocked(1) at " + minute, minute - 6, x.blocked(1));
            x.pass(1);
        }
        Checks.due("blocked(1) at 11", 5, x.blocked(1));
        passAll(x, 85);
        Checks.due("arrivedAt(0)", 96, x.arrivedAt(0));
        Checks.due("blocked(1) at 96", 5, x.blocked(1));
        // the relay is back when it sees the station 3 from 360 on and the station 4 from 361 on
        passAll(x, 300);
        Checks.due("arrivedAt(1)", 362, x.arrivedAt(1));
        Checks.due("blocked(1) at 396", 5, x.blocked(1));
    }

    private static void capacityChanged() {
        Satellitering x = slow();
        x.pass(2);
        x.setCapacity(2, 2);
        Checks.due("pass(1) with more room", 0, x.pass(1));
        Checks.due("nodeOf(1)", 2, x.nodeOf(1));
        Checks.due("blocked(1)", 2, x.blocked(1));
        Checks.due("load(2)", 2, x.load(2));
        x.setCapacity(2, 1);
        Checks.due("load(2) with less room", 2, x.load(2));
        x.send(3, 4);
        Checks.due("pass(1) with less room", 1, x.pass(1));
        Checks.due("arrivedAt(1)", 10, x.arrivedAt(1));
        Checks.due("load(2), full yet", 1, x.load(2));
        Checks.due("blocked(2)", 1, x.blocked(2));
    }

    private static void throughAStation() {
        Satellitering x = WaysTest.overAStation();
        x.send(0, 4);
        x.send(0, 2);
        Checks.due("pass(11)", 0, x.pass(11));
        Checks.due("nodeOf(0), a station on its way", 2, x.nodeOf(0));
        Checks.due("arrivedAt(0)", "throws.NoSuchElementException", Checks.thrownBy(x, y -> y.arrivedAt(0)));
        Checks.due("blocked(1)", 1, x.blocked(1));
        Checks.due("pass(3)", 1, x.pass(3));
        Checks.due("arrivedAt(0)", 14, x.arrivedAt(0));
        Checks.due("hops(0)", 4, x.hops(0));
        hop(x, 0, 0, 1, 0);
        hop(x, 0, 1, 2, 10);
        hop(x, 0, 2, 3, 11);
        hop(x, 0, 3, 4, 13);
    }

    /** What can't arrive waits and is not blocked; a relay that is added later may take it. */
    private static void noWay() {
        Satellitering x = new Satellitering();
        x.addStation(0);
        x.addStation(41);
        x.addRelay(0, 1, 0, 1);
        x.send(1, 0);
        x.send(0, 1);
        x.pass(1);
        Checks.due("nodeOf(1), for the minutes behind have no way", 2, x.nodeOf(1));
        passAll(x, 40);
        Checks.due("nodeOf(0) at 41", 1, x.nodeOf(0));
        Checks.due("pass(1) at 41", 1, x.pass(1));
        Checks.due("hops(0) at 42, blocked by the one that was delivered", 0, x.hops(0));
        Checks.due("blocked(0) at 42", 1, x.blocked(0));
        passAll(x, 30);
        x.addRelay(1, 0, 40, 1);
        x.pass(1);
        Checks.due("nodeOf(0) at the new relay", 3, x.nodeOf(0));
        Checks.due("pass(1) to its goal", 1, x.pass(1));
        Checks.due("arrivedAt(0)", 74, x.arrivedAt(0));
        Checks.due("blocked(0) at 74", 1, x.blocked(0));
    }

    /** The way from station 0 to station 1 takes 400 minutes if it starts at the minute, and else too long. */
    private static void justInTime(int minute) {
        int[][] relays = {{107, 2}, {108, -6}, {155, -5}};
        Satellitering x = new Satellitering();
        for (int place : new int[] {306, 359, 354, 8}) {
            x.addStation(place);
        }
        for (int[] r : relays) {
            // as they were first reckoned, the minute was 267
            x.addRelay(Math.floorMod(r[0] + r[1] * (267 - minute), 360), r[1], 0, 1);
        }
        Checks.due("arrival at " + minute, minute + 400, x.arrival(0, 1, minute));
        Checks.due("arrival at " + (minute + 1), -1, x.arrival(0, 1, minute + 1));
        passAll(x, minute);
        x.send(0, 1);
        x.pass(1);
        Checks.due("hops(0) at " + (minute + 1), 1, x.hops(0));
        x.send(0, 1);
        x.pass(1);
        Checks.due("hops(1) at " + (minute + 2), 0, x.hops(1));
        passAll(x, 397);
        Checks.due("the last pass(1) after " + minute, 1, x.pass(1));
        Checks.due("arrivedAt(0)", minute + 400, x.arrivedAt(0));
    }

    /** All nodes and messages there can be: only the last station and the last relay are in use. */
    private static void fullRing() {
        Satellitering x = new Satellitering();
        for (int i = 0; i < 5; i++) {
            x.addRelay(100 + i, 0, 0, 1);
        }
        for (int i = 0; i < 3; i++) {
            x.addStation(200 + 20 * i);
        }
        Checks.due("the last station", 8, x.addStation(5));
        Checks.due("the last relay", 9, x.addRelay(10, 0, 179, 9));
        for (int i = 0; i < 20; i++) {
            x.send(8, 7);
        }
        Checks.due("arrival(8, 7, 0)", 2, x.arrival(8, 7, 0));
        Checks.due("arrivalByFlooding(8, 7, 0)", 2, x.arrivalByFlooding(8, 7, 0));
        // a reach of 179 sees every station here; relays of reach 0 see none
        Checks.due("spread(8, 0, 2)", 5, x.spread(8, 0, 2));
        Checks.due("pass(1) of a full ring", 0, x.pass(1));
        Checks.due("load(9)", 9, x.load(9));
        Checks.due("blocked(19)", 1, x.blocked(19));
        Checks.due("pass(30) of a full ring", 20, x.pass(30));
        Checks.due("load(7)", 20, x.load(7));
        Checks.due("arrivedAt(19)", 4, x.arrivedAt(19));
        Checks.due("relayOf(8)", 9, x.relayOf(8));
    }

    /** Full relays block one another, and some messages are handed to and fro: their hops are all kept. */
    private static void manyHops() {
        int[] places = {270, 60, 240};
        int[][] relays = {{320, -1, 40}, {140, -8, 20}, {0, 0, 80}, {290, -8, 60}, {100, -2, 50}, {290, 0, 70}};
        int[][] ways = {{2, 0}, {1, 2}, {2, 0}, {1, 0}, {0, 1}, {1, 0}, {0, 2}, {1, 2}, {1, 2}, {0, 1}, {1, 2}, {1, 2}};
        Satellitering x = new Satellitering();
        PlainRing plain = new PlainRing();
        for (int place : places) {
            x.addStation(place);
            plain.addStation(place);
        }
        for (int[] r : relays) {
            x.addRelay(r[0], r[1], r[2], 1);
            plain.addRelay(r[0], r[1], r[2], 1);
        }
        for (int[] way : ways) {
            x.send(way[0], way[1]);
            plain.send(way[0], way[1]);
        }
        int most = 0;
        for (int i = 0; i < 30; i++) {
            Checks.due("pass " + i + " of many hops", plain.pass(30), x.pass(30));
        }
        for (int message = 0; message < ways.length; message++) {
            Checks.due("hops(" + message + ") of many", plain.hops(message), x.hops(message));
            Checks.due("blocked(" + message + ") of many", plain.blocked(message), x.blocked(message));
            for (int hop = 0; hop < plain.hops(message); hop++) {
                hop(x, message, hop, plain.hopNode(message, hop), plain.hopMinute(message, hop));
            }
            most = Math.max(most, x.hops(message));
        }
        Checks.due("there are many hops", true, most > 30);
    }

    private static Satellitering underway() {
        Satellitering x = pair();
        x.send(0, 1);
        x.send(0, 1);
        x.pass(11);
        return x;
    }

    private static void refusals() {
        int[] noNodes = {-1, 4, Integer.MIN_VALUE, Integer.MAX_VALUE};
        for (int none : noNodes) {
            Checks.refused("load(" + none + ")", Checks.INDEX, MessagesTest::underway, y -> y.load(none));
            Checks.refused("send(" + none + ", 0)", Checks.INDEX, MessagesTest::underway, y -> y.send(none, 0));
            Checks.refused("send(0, " + none + ")", Checks.INDEX, MessagesTest::allSent, y -> y.send(0, none));
            Checks.refused("send(" + none + ", the same)", Checks.INDEX, MessagesTest::allSent,
                    y -> y.send(none, none));
        }
        Checks.refused("send(0, relay)", Checks.INDEX, MessagesTest::allSent, y -> y.send(0, 2));
        Checks.refused("send(relay, 0)", Checks.INDEX, MessagesTest::underway, y -> y.send(3, 0));
        Checks.refused("send(relay, the same)", Checks.INDEX, MessagesTest::allSent, y -> y.send(2, 2));
        Checks.refused("send(0, 0)", Checks.ARGUMENT, MessagesTest::underway, y -> y.send(0, 0));
        Checks.refused("send(1, 1) of all", Checks.ARGUMENT, MessagesTest::allSent, y -> y.send(1, 1));
        Checks.refused("send(0, 1) of all", Checks.STATE, MessagesTest::allSent, y -> y.send(0, 1));
        for (int minutes : new int[] {0, 31, -1, Integer.MIN_VALUE, Integer.MAX_VALUE}) {
            Checks.refused("pass(" + minutes + ")", Checks.ARGUMENT, MessagesTest::underway, y -> y.pass(minutes));
        }
        for (int none : new int[] {-1, 2, 19, 20, Integer.MIN_VALUE, Integer.MAX_VALUE}) {
            noMessage(none);
        }
        Checks.refused("arrivedAt(1)", Checks.ELEMENT, MessagesTest::underway, y -> y.arrivedAt(1));
        for (int none : new int[] {-1, 2, 3, 8, Integer.MIN_VALUE, Integer.MAX_VALUE}) {
            noHop(0, none);
        }
        noHop(1, 0);
    }

    private static void noMessage(int none) {
        String which = "(" + none + ")";
        Checks.refused("nodeOf" + which, Checks.INDEX, MessagesTest::underway, y -> y.nodeOf(none));
        Checks.refused("arrivedAt" + which, Checks.INDEX, MessagesTest::underway, y -> y.arrivedAt(none));
        Checks.refused("hops" + which, Checks.INDEX, MessagesTest::underway, y -> y.hops(none));
        Checks.refused("blocked" + which, Checks.INDEX, MessagesTest::underway, y -> y.blocked(none));
        noHop(none, 0);
    }

    private static void noHop(int message, int hop) {
        String which = "(" + message + ", " + hop + ")";
        Checks.refused("hopNode" + which, Checks.INDEX, MessagesTest::underway, y -> y.hopNode(message, hop));
        Checks.refused("hopMinute" + which, Checks.INDEX, MessagesTest::underway, y -> y.hopMinute(message, hop));
    }
}
