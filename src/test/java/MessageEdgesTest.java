/** "Terms", messages, and promises 13 to 23: each sentence with an edge has a method of its own. */
public final class MessageEdgesTest {
    public static void main(String[] args) {
        atMost20();
        atFirstItIsAtItsStation();
        arrivedOnesAreNotGoneThrough();
        byTheirNumbers();
        whatCannotArriveWaits();
        as401MinutesAreNoWay();
        handedOnIfThereIsNoneAnyMore();
        waitsWhileItIsAsEarly();
        onlyToANodeOnTheEarliestWay();
        toTheLowestNumber();
        toTheLowestNumberIfThatIsAStation();
        blockedThoughAStationIsAsGood();
        blockedThoughARelayIsAsGood();
        eachBlockCounts();
        aStationIsNeverFull();
        fullAtItsCapacity();
        fullAboveItsCapacity();
        notFullBelowItsCapacity();
        thoseHandedOnDoNotCount();
        thoseNotYetHandedOnCount();
        thereFromTheNextMinuteOn();
        arrivedAtItsGoalAlone();
        howManyArrived();
        minutesPassOneAfterTheOther();
        upToTheLastMinute();
        hopsFrom0On();
        loadOfStations();
        on512Calls();
        Checks.end();
    }

    /** Stations 0 and 1 and between them the relay 2, which sees both always. */
    private static Satellitering between(int capacity) {
        Satellitering x = new Satellitering();
        x.addStation(0);
        x.addStation(20);
        x.addRelay(10, 0, 10, capacity);
        return x;
    }

    /** Four stations, at 0, 10, 20 and 30; the relay 4 is at the minute t at the place t and sees just that. */
    private static Satellitering row(int capacity) {
        Satellitering x = new Satellitering();
        for (int i = 0; i < 4; i++) {
            x.addStation(10 * i);
        }
        x.addRelay(0, 1, 0, capacity);
        return x;
    }

    private static void send(Satellitering x, int times, int station, int other) {
        for (int i = 0; i < times; i++) {
            x.send(station, other);
        }
    }

    /** Passes up to the minute; returns how many arrived. */
    private static int passTo(Satellitering x, int minute) {
        int arrived = 0;
        while (x.now() < minute) {
            arrived += x.pass(Math.min(30, minute - x.now()));
        }
        return arrived;
    }

    private static void message(Satellitering x, int message, int node, int hops, int blocked) {
        String of = "(" + message + ") at " + x.now();
        Checks.due("nodeOf" + of, node, x.nodeOf(message));
        Checks.due("hops" + of, hops, x.hops(message));
        Checks.due("blocked" + of, blocked, x.blocked(message));
    }

    private static void arrived(Satellitering x, int message, String want) {
        Checks.due("arrivedAt(" + message + ") at " + x.now(), want, Checks.outcome(x, y -> y.arrivedAt(message)));
    }

    private static void notArrived(Satellitering x, int message) {
        arrived(x, message, "throws.NoSuchElementException");
    }

    /** The hops are given as node, minute, node, minute .. */
    private static void hops(Satellitering x, int message, int... want) {
        Checks.due("hops(" + message + ")", want.length / 2, x.hops(message));
        for (int hop = 0; hop < want.length / 2 && hop < x.hops(message); hop++) {
            String of = "(" + message + ", " + hop + ")";
            Checks.due("hopNode" + of, want[2 * hop], x.hopNode(message, hop));
            Checks.due("hopMinute" + of, want[2 * hop + 1], x.hopMinute(message, hop));
        }
    }

    /** "There are at most 20, numbered from 0.": those that have arrived count, too. */
    private static void atMost20() {
        Satellitering x = between(9);
        Checks.due("messages() at first", 0, x.messages());
        for (int i = 0; i < 20; i++) {
            Checks.due("send number " + i, i, x.send(i % 2, 1 - i % 2));
            Checks.due("messages() behind it", i + 1, x.messages());
            x.pass(1);
        }
        Checks.due("the 21st", "throws.IllegalStateException", Checks.outcome(x, y -> y.send(0, 1)));
        x.pass(30);
        arrived(x, 19, "21");
        Checks.due("the 21st when all have arrived", "throws.IllegalStateException",
                Checks.outcome(x, y -> y.send(0, 1)));
        Checks.due("messages() of all", 20, x.messages());
    }

    /** "A message goes from a station to another one; at first it is at its station." */
    private static void atFirstItIsAtItsStation() {
        Satellitering x = row(9);
        for (int from = 0; from < 4; from++) {
            for (int to = 0; to < 4; to++) {
                if (from != to) {
                    int message = x.send(from, to);
                    message(x, message, from, 0, 0);
                    notArrived(x, message);
                }
            }
            Checks.due("load(" + from + ")", 3, x.load(from));
        }
        Checks.due("load of the relay", 0, x.load(4));
    }

    /** "[..] the messages that have not arrived are gone through": one that has arrived stays. */
    private static void arrivedOnesAreNotGoneThrough() {
        Satellitering x = between(1);
        x.send(0, 1);
        Checks.due("pass(1)", 0, x.pass(1));
        Checks.due("pass(1), it arrives", 1, x.pass(1));
        for (int i = 0; i < 13; i++) {
            Checks.due("pass(30) behind it", 0, x.pass(30));
        }
        message(x, 0, 1, 2, 0);
        arrived(x, 0, "2");
        hops(x, 0, 2, 0, 1, 1);
    }

    /** "[..] gone through by their numbers": the lower one takes the room, wherever and whenever it was sent. */
    private static void byTheirNumbers() {
        Satellitering x = between(1);
        x.send(1, 0);
        x.send(0, 1);
        x.send(1, 0);
        x.pass(1);
        message(x, 0, 2, 1, 0);
        message(x, 1, 0, 0, 1);
        message(x, 2, 1, 0, 1);
        Checks.due("pass(1)", 1, x.pass(1));
        message(x, 0, 0, 2, 0);
        message(x, 1, 2, 1, 1);
        message(x, 2, 1, 0, 2);
    }

    /** "If a message can still arrive": if not, it waits, though it sees a relay, and is not blocked. */
    private static void whatCannotArriveWaits() {
        Satellitering x = between(1);
        x.addStation(180);
        x.send(0, 3);
        x.send(0, 1);
        x.send(3, 0);
        Checks.due("pass(30)", 1, x.pass(30));
        message(x, 0, 0, 0, 0);
        message(x, 2, 3, 0, 0);
        notArrived(x, 0);
        // a new relay makes a way
        x.addRelay(100, 0, 90, 1);
        Checks.due("load(2)", 0, x.load(2));
        Checks.due("pass(1)", 0, x.pass(1));
        message(x, 0, 2, 1, 0);
        message(x, 2, 4, 1, 0);
        // and so does a new station between two relays that never meet
        Satellitering y = new Satellitering();
        y.addStation(0);
        y.addRelay(10, 0, 10, 1);
        y.addRelay(30, 0, 10, 1);
        y.addStation(40);
        y.send(0, 3);
        y.pass(30);
        message(y, 0, 0, 0, 0);
        y.addStation(20);
        y.pass(1);
        message(y, 0, 1, 1, 0);
        Checks.due("pass(30)", 1, y.pass(30));
        hops(y, 0, 1, 30, 4, 31, 2, 32, 3, 33);
    }

    /** "If a message can still arrive": in 401 minutes it can't, though the relay of that way is seen. */
    private static void as401MinutesAreNoWay() {
        for (int minute : new int[] {0, 1, 187, 359, 360}) {
            Satellitering x = WayEdgesTest.longWay(minute, 401);
            passTo(x, minute);
            x.send(0, 1);
            Checks.due("the relay is seen", true, x.see(0, 3, minute));
            x.pass(1);
            message(x, 0, 0, 0, 0);
            // the relay comes again after 180 minutes, and then it is 341 minutes to the goal
            passTo(x, minute + 180);
            message(x, 0, 0, 0, 0);
            x.pass(1);
            message(x, 0, 3, 1, 0);
            Checks.due("arrived before the last minute", 0, passTo(x, minute + 520));
            Checks.due("arrives in the last minute", 1, x.pass(1));
            arrived(x, 0, Integer.toString(minute + 521));
        }
    }

    /** "[..] (or there is none any more)": after 400 minutes it arrives yet, a minute later there is no way. */
    private static void handedOnIfThereIsNoneAnyMore() {
        for (int minute : new int[] {0, 1, 187, 359, 360}) {
            Satellitering x = WayEdgesTest.longWay(minute, 400);
            passTo(x, minute);
            Checks.due("arrival a minute later", -1, x.arrival(0, 1, minute + 1));
            x.send(0, 1);
            x.pass(1);
            message(x, 0, 3, 1, 0);
            Checks.due("arrived before the last minute", 0, passTo(x, minute + 399));
            Checks.due("arrives in the last minute", 1, x.pass(1));
            hops(x, 0, 3, minute, 2, minute + 173, 4, minute + 292, 1, minute + 399);
            arrived(x, 0, Integer.toString(minute + 400));
        }
    }

    /** "[..] its earliest arrival from its node at t + 1 is later than that at t": else it waits. */
    private static void waitsWhileItIsAsEarly() {
        Satellitering x = new Satellitering();
        x.addStation(0);
        x.addStation(100);
        // sees the station 0 to the minute 5, and the station 1 from 95 on
        x.addRelay(0, 1, 5, 1);
        x.send(0, 1);
        x.pass(5);
        message(x, 0, 0, 0, 0);
        x.pass(1);
        message(x, 0, 2, 1, 0);
        Checks.due("passed to 95", 0, passTo(x, 95));
        message(x, 0, 2, 1, 0);
        Checks.due("pass(1)", 1, x.pass(1));
        hops(x, 0, 2, 5, 1, 95);
    }

    /** "[..] to the node [..] for which the earliest arrival from it at t + 1 is that from its own node at t" */
    private static void onlyToANodeOnTheEarliestWay() {
        Satellitering x = new Satellitering();
        x.addStation(0);
        x.addStation(20);
        // of the relays that see station 0, 2 sees nothing else, 3 sees station 1 a minute too late, 4 sees it at 1
        x.addRelay(0, 0, 1, 1);
        x.addRelay(355, 5, 5, 1);
        x.addRelay(10, 0, 10, 1);
        x.send(0, 1);
        x.pass(1);
        message(x, 0, 4, 1, 0);
        Checks.due("pass(1)", 1, x.pass(1));
        hops(x, 0, 4, 0, 1, 1);
    }

    /** "[..] of several to the one with the lowest number" */
    private static void toTheLowestNumber() {
        for (int lowest = 0; lowest < 3; lowest++) {
            Satellitering x = new Satellitering();
            for (int i = 0; i < lowest; i++) {
                x.addRelay(200, 0, 0, 9);
            }
            x.addRelay(10, 0, 10, 1);
            x.addRelay(10, 0, 10, 9);
            x.addRelay(10, 0, 179, 9);
            int from = x.addStation(0);
            int to = x.addStation(20);
            x.send(from, to);
            x.pass(1);
            message(x, 0, lowest, 1, 0);
        }
    }

    /**
     * At the minute 20 the relay 3 (at 55 - 2t, reach 10) sees the stations 1 and 2, at 25, for the last time, and at
     * 25 the other relay (at 340 + t, reach 0) and the station at 15 for the last time. The other relay comes by the
     * station at 15 at the minute 35 and by those at 25 at the minute 45. Which of the two has the number 0 and which
     * the number 4 is asked. Station 5, at 341, is seen by the other relay at 1.
     */
    private static Satellitering crossing(boolean stationFirst) {
        Satellitering x = new Satellitering();
        if (stationFirst) {
            x.addStation(15);
        } else {
            x.addRelay(340, 1, 0, 1);
        }
        x.addStation(25);
        x.addStation(25);
        x.addRelay(55, -2, 10, 1);
        if (stationFirst) {
            x.addRelay(340, 1, 0, 1);
        } else {
            x.addStation(15);
        }
        x.addStation(341);
        return x;
    }

    /** "[..] of several to the one with the lowest number": be it a station or a relay. */
    private static void toTheLowestNumberIfThatIsAStation() {
        Satellitering x = crossing(true);
        x.pass(20);
        x.send(1, 2);
        Checks.due("passed to 46", 1, passTo(x, 46));
        hops(x, 0, 3, 20, 0, 25, 4, 35, 2, 45);
        Satellitering y = crossing(false);
        y.pass(20);
        y.send(1, 2);
        Checks.due("passed to 46", 1, passTo(y, 46));
        hops(y, 0, 3, 20, 0, 25, 2, 45);
    }

    /** "But if that is a relay whose buffer is full, the message is blocked: it waits." */
    private static void blockedThoughAStationIsAsGood() {
        Satellitering x = crossing(false);
        x.send(5, 2);
        x.pass(20);
        message(x, 0, 0, 1, 0);
        x.send(1, 2);
        passTo(x, 25);
        message(x, 1, 3, 1, 0);
        x.pass(1);
        message(x, 1, 3, 1, 1);
        // its relay sees the goal again from 190 on
        Checks.due("passed to 190", 1, passTo(x, 190));
        message(x, 1, 3, 1, 1);
        Checks.due("pass(1)", 1, x.pass(1));
        hops(x, 1, 3, 20, 2, 190);
        // but if the station has the lower number, it takes the message
        Satellitering y = crossing(true);
        y.send(5, 2);
        y.pass(20);
        y.send(1, 2);
        passTo(y, 26);
        message(y, 0, 4, 1, 0);
        message(y, 1, 0, 2, 0);
        passTo(y, 36);
        message(y, 1, 0, 2, 1);
    }

    /** "[..] the message is blocked": the next relay, which has room and is as good, does not get it. */
    private static void blockedThoughARelayIsAsGood() {
        Satellitering x = between(1);
        x.addRelay(10, 0, 10, 9);
        send(x, 3, 0, 1);
        x.pass(1);
        message(x, 0, 2, 1, 0);
        message(x, 1, 0, 0, 1);
        message(x, 2, 0, 0, 1);
        Checks.due("load(3)", 0, x.load(3));
    }

    /** Promise 22, "how often a message was blocked": at each minute at which it was. */
    private static void eachBlockCounts() {
        Satellitering x = between(1);
        send(x, 20, 0, 1);
        for (int minute = 1; minute <= 20; minute++) {
            x.pass(1);
            Checks.due("blocked(19) at " + minute, Math.min(minute, 19), x.blocked(19));
        }
        x.pass(30);
        Checks.due("blocked(19) when it has arrived", 19, x.blocked(19));
        arrived(x, 19, "21");
        // once a round, when the relay comes by: in the round r it takes the message r
        Satellitering y = row(1);
        send(y, 3, 0, 3);
        for (int round = 0; round < 3; round++) {
            passTo(y, 360 * round + 1);
            message(y, round, 4, 1, round);
            passTo(y, 360 * round + 360);
            message(y, round, 3, 2, round);
            Checks.due("blocked(2) at " + y.now(), Math.min(round + 1, 2), y.blocked(2));
        }
    }

    /** "if that is a relay": a station takes whatever comes, on its way or at its goal. */
    private static void aStationIsNeverFull() {
        Satellitering x = new Satellitering();
        x.addStation(0);
        x.addRelay(10, 0, 10, 9);
        x.addStation(20);
        x.addRelay(30, 0, 10, 1);
        x.addStation(40);
        send(x, 20, 0, 4);
        passTo(x, 4);
        // all were handed on to the station 2, which has handed on 2 of them
        Checks.due("load(2)", 18, x.load(2));
        Checks.due("load(1)", 0, x.load(1));
        Checks.due("load(3)", 1, x.load(3));
        Checks.due("load(4)", 1, x.load(4));
        Checks.due("passed to 30", 19, passTo(x, 30));
        Checks.due("load(4) of all", 20, x.load(4));
        arrived(x, 19, "23");
    }

    /** "A relay's buffer is full if at least as many messages are at it as its capacity": at 1 to 9. */
    private static void fullAtItsCapacity() {
        for (int capacity = 1; capacity <= 9; capacity++) {
            Satellitering x = between(capacity);
            send(x, 20, 0, 1);
            Checks.due("pass(1) with capacity " + capacity, 0, x.pass(1));
            Checks.due("load(2) with capacity " + capacity, capacity, x.load(2));
            Checks.due("load(0) with capacity " + capacity, 20 - capacity, x.load(0));
            message(x, capacity - 1, 2, 1, 0);
            message(x, capacity, 0, 0, 1);
            Checks.due("pass(1) with capacity " + capacity, capacity, x.pass(1));
            passTo(x, 30);
            for (int message = 0; message < 20; message++) {
                int waited = message / capacity;
                message(x, message, 1, 2, waited);
                hops(x, message, 2, waited, 1, waited + 1);
            }
        }
    }

    /** "at least as many": more than its capacity are at it, as that was lowered (promise 4: "messages [..] stay"). */
    private static void fullAboveItsCapacity() {
        Satellitering x = row(3);
        x.send(0, 1);
        x.send(0, 2);
        x.send(0, 3);
        x.send(1, 3);
        x.send(2, 3);
        x.send(3, 0);
        x.pass(1);
        Checks.due("setCapacity(4, 1)", 3, x.setCapacity(4, 1));
        Checks.due("load(4) above its capacity", 3, x.load(4));
        Checks.due("passed to 11", 1, passTo(x, 11));
        Checks.due("load(4) above its capacity", 2, x.load(4));
        message(x, 3, 1, 0, 1);
        Checks.due("passed to 21", 1, passTo(x, 21));
        Checks.due("load(4) at its capacity", 1, x.load(4));
        message(x, 4, 2, 0, 1);
        Checks.due("passed to 31", 1, passTo(x, 31));
        message(x, 5, 4, 1, 0);
        Checks.due("load(4)", 1, x.load(4));
    }

    /** Not full: one below its capacity, as that was raised. */
    private static void notFullBelowItsCapacity() {
        Satellitering x = row(1);
        x.send(0, 3);
        x.send(1, 3);
        x.send(1, 3);
        x.pass(10);
        Checks.due("setCapacity(4, 2)", 1, x.setCapacity(4, 2));
        x.pass(1);
        message(x, 1, 4, 1, 0);
        message(x, 2, 1, 0, 1);
        Checks.due("load(4)", 2, x.load(4));
        Satellitering y = row(8);
        send(y, 8, 0, 3);
        send(y, 2, 1, 3);
        y.pass(10);
        Checks.due("setCapacity(4, 9)", 8, y.setCapacity(4, 9));
        y.pass(1);
        message(y, 8, 4, 1, 0);
        message(y, 9, 1, 0, 1);
        Checks.due("load(4)", 9, y.load(4));
    }

    /** "[..] and not those that were handed on": just before, by a lower number. */
    private static void thoseHandedOnDoNotCount() {
        Satellitering x = row(1);
        x.send(0, 1);
        x.send(1, 2);
        x.send(2, 3);
        Checks.due("passed to 31", 3, passTo(x, 31));
        hops(x, 0, 4, 0, 1, 10);
        hops(x, 1, 4, 10, 2, 20);
        hops(x, 2, 4, 20, 3, 30);
        message(x, 1, 2, 2, 0);
        message(x, 2, 3, 2, 0);
    }

    /** Those that are handed on in the same minute, but by a higher number, are at the relay yet. */
    private static void thoseNotYetHandedOnCount() {
        Satellitering x = row(1);
        x.send(1, 2);
        x.send(0, 1);
        Checks.due("passed to 11", 1, passTo(x, 11));
        message(x, 0, 1, 0, 1);
        hops(x, 1, 4, 0, 1, 10);
        Checks.due("load(4)", 0, x.load(4));
    }

    /** "A message that is handed on at t is at the other node from t + 1 on": one step a minute, whatever it sees. */
    private static void thereFromTheNextMinuteOn() {
        Satellitering x = between(1);
        x.pass(3);
        x.send(0, 1);
        message(x, 0, 0, 0, 0);
        Checks.due("load(2) at 3", 0, x.load(2));
        x.pass(1);
        message(x, 0, 2, 1, 0);
        Checks.due("load(2) at 4", 1, x.load(2));
        Checks.due("load(0) at 4", 0, x.load(0));
        notArrived(x, 0);
        x.pass(1);
        message(x, 0, 1, 2, 0);
        arrived(x, 0, "5");
        hops(x, 0, 2, 3, 1, 4);
        // the same with the relay behind and before both stations in the row
        Satellitering y = new Satellitering();
        y.addRelay(10, 0, 10, 1);
        y.addStation(0);
        y.addStation(20);
        y.send(2, 1);
        y.pass(1);
        message(y, 0, 0, 1, 0);
        y.pass(1);
        hops(y, 0, 0, 0, 1, 1);
    }

    /** "[..] it has arrived when it is at the station to which it goes": not at a station on its way. */
    private static void arrivedAtItsGoalAlone() {
        Satellitering x = new Satellitering();
        for (int i = 0; i < 4; i++) {
            x.addStation(20 * i);
        }
        for (int i = 0; i < 3; i++) {
            x.addRelay(20 * i + 10, 0, 10, 1);
        }
        x.send(0, 3);
        int[] way = {0, 4, 1, 5, 2, 6};
        for (int minute = 0; minute < 6; minute++) {
            message(x, 0, way[minute], minute, 0);
            notArrived(x, 0);
            Checks.due("pass(1) at " + minute, minute == 5 ? 1 : 0, x.pass(1));
        }
        arrived(x, 0, "6");
        Checks.due("load(1)", 0, x.load(1));
    }

    /** Promise 14, "how many messages arrived in them": none, one, all twenty; each once. */
    private static void howManyArrived() {
        Satellitering none = between(1);
        Checks.due("pass(30) without messages", 0, none.pass(30));
        Checks.due("pass(30) without nodes", 0, new Satellitering().pass(30));
        none.send(1, 0);
        Checks.due("pass(1) of one", 0, none.pass(1));
        Checks.due("pass(30) of one", 1, none.pass(30));
        Checks.due("pass(30) behind it", 0, none.pass(30));
        Satellitering all = between(1);
        send(all, 20, 0, 1);
        Checks.due("pass(20) of twenty", 19, all.pass(20));
        Checks.due("pass(1) of twenty", 1, all.pass(1));
        Satellitering wide = between(9);
        for (int i = 0; i < 20; i++) {
            wide.send(i % 2, 1 - i % 2);
        }
        Checks.due("pass(30) of twenty", 20, wide.pass(30));
    }

    /** Promise 14, "1 to 30": "Lets minutes pass, one after the other", so thirty are as thirty times one. */
    private static void minutesPassOneAfterTheOther() {
        for (int minutes = 1; minutes <= 30; minutes++) {
            Satellitering whole = row(1);
            Satellitering parts = row(1);
            send(whole, 3, 0, 2);
            send(parts, 3, 0, 2);
            for (int i = 0; i < 30; i++) {
                int arrived = 0;
                for (int j = 0; j < minutes; j++) {
                    arrived += parts.pass(1);
                }
                Checks.due("pass(" + minutes + ") at " + whole.now(), arrived, whole.pass(minutes));
                Checks.due("now() after pass(" + minutes + ")", minutes * (i + 1), whole.now());
            }
            Checks.due("the state after pass(" + minutes + ")", Checks.state(parts), Checks.state(whole));
        }
    }

    /**
     * Promise 14, "if now would be above 1000000". No object comes so far in 512 calls: the class has no such bound,
     * so that this can be tried.
     */
    private static void upToTheLastMinute() {
        Satellitering x = between(1);
        send(x, 2, 0, 1);
        passTo(x, 999971);
        String before = Checks.state(x);
        Checks.due("pass(30) to 1000001", "throws.IllegalStateException", Checks.outcome(x, y -> y.pass(30)));
        Checks.due("pass(31)", "throws.IllegalArgumentException", Checks.outcome(x, y -> y.pass(31)));
        Checks.due("pass(0)", "throws.IllegalArgumentException", Checks.outcome(x, y -> y.pass(0)));
        Checks.due("the state after them", before, Checks.state(x));
        Checks.due("pass(29) to 1000000", "0", Checks.outcome(x, y -> y.pass(29)));
        Checks.due("now()", 1000000, x.now());
        Checks.due("pass(1) to 1000001", "throws.IllegalStateException", Checks.outcome(x, y -> y.pass(1)));
        Checks.due("pass(0) at the end", "throws.IllegalArgumentException", Checks.outcome(x, y -> y.pass(0)));
        Checks.due("now()", 1000000, x.now());
        Checks.due("send at the end", 2, x.send(0, 1));
        Checks.due("the relay of a station that is added at the end", 2, x.relayOf(x.addStation(20)));
        Satellitering z = new Satellitering();
        passTo(z, 999970);
        Checks.due("pass(30) to 1000000", "0", Checks.outcome(z, y -> y.pass(30)));
        Checks.due("now()", 1000000, z.now());
    }

    /** Promises 19 to 21, `hop` "from 0": each up to the last, also when there are more than eight. */
    private static void hopsFrom0On() {
        Satellitering x = new Satellitering();
        for (int i = 0; i < 10; i++) {
            if (i % 3 == 0) {
                x.addStation(10 * i);
            } else {
                x.addRelay(10 * i, 0, 10, 1);
            }
        }
        x.send(0, 9);
        for (int minute = 0; minute <= 9; minute++) {
            message(x, 0, minute, minute, 0);
            for (int i = -1; i <= 10; i++) {
                int hop = i;
                boolean there = 0 <= hop && hop < minute;
                String none = "throws.IndexOutOfBoundsException";
                Checks.due("hopNode(0, " + hop + ") at " + minute, there ? Integer.toString(hop + 1) : none,
                        Checks.outcome(x, y -> y.hopNode(0, hop)));
                Checks.due("hopMinute(0, " + hop + ") at " + minute, there ? Integer.toString(hop) : none,
                        Checks.outcome(x, y -> y.hopMinute(0, hop)));
            }
            x.pass(1);
        }
        arrived(x, 0, "9");
    }

    /** Promise 23, "those counted that have arrived at it": with those that wait there. */
    private static void loadOfStations() {
        Satellitering x = row(9);
        send(x, 2, 0, 1);
        send(x, 3, 1, 0);
        x.pass(10);
        Checks.due("load(0)", 0, x.load(0));
        Checks.due("load(1)", 3, x.load(1));
        Checks.due("load(4)", 2, x.load(4));
        x.pass(1);
        Checks.due("load(1) of those that have arrived", 2, x.load(1));
        Checks.due("load(4) of the others", 3, x.load(4));
        send(x, 2, 1, 2);
        Checks.due("load(1) of both", 4, x.load(1));
        Checks.due("load(3)", 0, x.load(3));
    }

    /** "An object is used for at most 512 calls after it has been made": so many it must bear, dear ones, too. */
    private static void on512Calls() {
        Satellitering x = new Satellitering();
        for (int i = 0; i < 4; i++) {
            x.addStation(90 * i);
        }
        for (int i = 0; i < 6; i++) {
            x.addRelay(60 * i, 1 + i, 20, 1);
        }
        for (int i = 0; i < 20; i++) {
            x.send(i % 4, (i + 1) % 4);
        }
        int arrived = 0;
        for (int i = 0; i < 480; i++) {
            arrived += x.pass(30);
        }
        Checks.due("arrived in 480 calls of pass(30)", 20, arrived);
        Checks.due("the 512th call", 14400, x.now());
    }
}
