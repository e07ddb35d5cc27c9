/** "Terms", ways in time, and promises 10 to 12: each sentence with an edge has a method of its own. */
public final class WayEdgesTest {
    private static final int LAST_MINUTE = 1000000;

    public static void main(String[] args) {
        handingOnTakesAMinute();
        onlyWhatIsSeenThen();
        waitingIsFree();
        noneIfMoreThan400MinutesLater();
        noneIfMoreThan400MinutesLaterByManySteps();
        from400MinutesBehindTheLastMinute();
        atTheSameNode();
        buffersDoNotCount();
        noneIfThereIsNone();
        anyNumberOfSteps();
        theLeastMinute();
        earliestFirst();
        spreadAfterNoMinutes();
        spreadAfter400Minutes();
        theNodeItselfIsCounted();
        spreadOfAllNodes();
        Checks.end();
    }

    /** Both manners of finding it must answer the same. */
    private static void arrival(String what, int want, Satellitering x, int node, int other, int minute) {
        String asked = "(" + node + ", " + other + ", " + minute + ")";
        Checks.due(what + ": arrival" + asked, want, x.arrival(node, other, minute));
        Checks.due(what + ": arrivalByFlooding" + asked, want, x.arrivalByFlooding(node, other, minute));
    }

    private static void spread(String what, int want, Satellitering x, int node, int minute, int later) {
        Checks.due(what + ": spread(" + node + ", " + minute + ", " + later + ")", want,
                x.spread(node, minute, later));
    }

    /** Two stations and between them a row of still relays, each of which sees but the next ones. */
    private static Satellitering chain(int relays) {
        Satellitering x = new Satellitering();
        x.addStation(0);
        x.addStation(10 * relays + 10);
        for (int i = 1; i <= relays; i++) {
            x.addRelay(10 * i, 0, 10, 1);
        }
        return x;
    }

    /** A relay that is at the minute t at the place t, and stations that it comes by. */
    private static Satellitering line(int... stations) {
        Satellitering x = new Satellitering();
        for (int place : stations) {
            x.addStation(place);
        }
        x.addRelay(0, 1, 0, 1);
        return x;
    }

    /** "Something that is at a node at a minute t can be handed to a node that is seen at t, and is there at t + 1" */
    private static void handingOnTakesAMinute() {
        Satellitering x = chain(3);
        for (int minute : new int[] {0, 1, 359, 360, 999999, LAST_MINUTE}) {
            arrival("one step", minute + 1, x, 0, 2, minute);
            arrival("two steps", minute + 2, x, 0, 3, minute);
            arrival("three steps", minute + 3, x, 0, 4, minute);
            arrival("four steps", minute + 4, x, 0, 1, minute);
            arrival("four steps back", minute + 4, x, 1, 0, minute);
            for (int later = 0; later <= 4; later++) {
                spread("a step a minute", later + 1, x, 0, minute, later);
            }
            spread("no more", 5, x, 0, minute, 5);
        }
    }

    /** "[..] a node that is seen at t": neither a minute before nor behind. */
    private static void onlyWhatIsSeenThen() {
        Satellitering x = line(7);
        arrival("a minute before it is seen", 8, x, 0, 1, 6);
        arrival("when it is seen", 8, x, 0, 1, 7);
        arrival("a minute after it was seen", 368, x, 0, 1, 8);
        spread("not seen yet", 1, x, 0, 6, 1);
        spread("seen then", 2, x, 0, 6, 2);
        spread("seen at once", 2, x, 0, 7, 1);
        spread("not seen any more", 1, x, 0, 8, 1);
    }

    /** "[..] or it can wait, and is at the same node at t + 1" */
    private static void waitingIsFree() {
        Satellitering x = line(5, 100);
        arrival("waits at the station, then at the relay", 101, x, 0, 1, 0);
        arrival("waits for a minute less", 101, x, 0, 1, 4);
        arrival("does not wait", 101, x, 0, 1, 5);
        arrival("waits at the relay alone", 101, x, 2, 1, 6);
        arrival("waits for the last minute", 101, x, 2, 1, 100);
    }

    /** "[..] there is none if it is not at most 400 minutes later" */
    private static void noneIfMoreThan400MinutesLater() {
        Satellitering x = line(0, 39, 40, 41);
        // the next round of the relay begins at 360, 2777 rounds are 999720 minutes
        for (int round : new int[] {0, 360, 999720}) {
            arrival("399 minutes", round + 400, x, 0, 1, round + 1);
            arrival("400 minutes", round + 401, x, 0, 2, round + 1);
            arrival("401 minutes", -1, x, 0, 3, round + 1);
            arrival("398 minutes", round + 400, x, 0, 1, round + 2);
            arrival("399 minutes", round + 401, x, 0, 2, round + 2);
            arrival("400 minutes", round + 402, x, 0, 3, round + 2);
            arrival("42 minutes", round + 42, x, 0, 3, round);
            arrival("360 minutes", round + 361, x, 0, 4, round + 1);
        }
    }

    /** The same with two relays and a station between them, where the last step is the one that is too late. */
    private static void noneIfMoreThan400MinutesLaterByManySteps() {
        for (int minute : new int[] {0, 1, 187, 359, 360, LAST_MINUTE}) {
            Satellitering x = longWay(minute, 400);
            arrival("400 minutes by two relays", minute + 400, x, 0, 1, minute);
            arrival("its first 293 minutes", minute + 293, x, 0, 4, minute);
            spread("399 minutes", 4, x, 0, minute, 399);
            spread("400 minutes", 5, x, 0, minute, 400);
            Satellitering y = longWay(minute, 401);
            arrival("401 minutes by two relays", -1, y, 0, 1, minute);
            spread("400 of 401 minutes", 4, y, 0, minute, 400);
        }
    }

    /**
     * The way from station 0 to station 1, when it begins at the minute, takes so many minutes, 400 or 401: by relay 3
     * to station 2, which relay 4 has just left, and by that to the goal; the relays never meet, as each goes by the
     * places of its own alone. If it begins later, it takes longer than 400 minutes for some time.
     */
    static Satellitering longWay(int minute, int takes) {
        int goal = takes == 400 ? 25 : 17;
        int between = takes == 400 ? 346 : 344;
        int place = takes == 400 ? 142 : 137;
        Satellitering x = new Satellitering();
        x.addStation(0);
        x.addStation(goal);
        x.addStation(between);
        x.addRelay(Math.floorMod(-2 * minute, 360), 2, 0, 1);
        x.addRelay(Math.floorMod(place + 3 * minute, 360), -3, 0, 1);
        return x;
    }

    /** "[..] at most 400 minutes later": of the last minute that may be asked, too. */
    private static void from400MinutesBehindTheLastMinute() {
        Satellitering x = new Satellitering();
        x.addStation(0);
        x.addStation(39);
        x.addStation(40);
        x.addStation(41);
        // at the place 0 at the minutes 999999 and 1000359
        x.addRelay(81, 1, 0, 1);
        arrival("a step beyond the last minute", 1000360, x, 0, 4, LAST_MINUTE);
        arrival("399 minutes beyond", 1000399, x, 0, 1, LAST_MINUTE);
        arrival("400 minutes beyond", 1000400, x, 0, 2, LAST_MINUTE);
        arrival("401 minutes beyond", -1, x, 0, 3, LAST_MINUTE);
        spread("359 minutes beyond", 1, x, 0, LAST_MINUTE, 359);
        spread("360 minutes beyond", 2, x, 0, LAST_MINUTE, 360);
        spread("399 minutes beyond", 3, x, 0, LAST_MINUTE, 399);
        spread("400 minutes beyond", 4, x, 0, LAST_MINUTE, 400);
    }

    /** "(At the same node it is that minute itself.)" */
    private static void atTheSameNode() {
        Satellitering alone = new Satellitering();
        alone.addStation(0);
        Satellitering relay = new Satellitering();
        relay.addRelay(0, 30, 179, 9);
        Satellitering full = chain(6);
        for (int minute : new int[] {0, 1, 359, 360, 400, 401, LAST_MINUTE}) {
            arrival("a station alone", minute, alone, 0, 0, minute);
            arrival("a relay alone", minute, relay, 0, 0, minute);
            for (int node = 0; node < 8; node++) {
                arrival("one of eight", minute, full, node, node, minute);
            }
        }
    }

    /** "Buffers do not count for this." */
    private static void buffersDoNotCount() {
        Satellitering x = chain(1);
        for (int i = 0; i < 5; i++) {
            x.send(0, 1);
        }
        x.pass(1);
        Checks.due("load(2), full", 1, x.load(2));
        arrival("by a relay that is full", 3, x, 0, 1, 1);
        arrival("to a relay that is full", 2, x, 0, 2, 1);
        arrival("from a relay that is full", 2, x, 2, 1, 1);
        spread("by a relay that is full", 3, x, 0, 1, 2);
        spread("from a relay that is full", 3, x, 2, 1, 1);
        // nor does it matter at which minute, and how many messages wait, are on their way or have arrived
        Satellitering empty = chain(3);
        Satellitering full = chain(3);
        for (int i = 0; i < 20; i++) {
            full.send(i % 2, 1 - i % 2);
        }
        for (int now = 0; now < 8; now++) {
            for (int node = 0; node < 5; node++) {
                for (int other = 0; other < 5; other++) {
                    arrival("with full relays", empty.arrival(node, other, now), full, node, other, now);
                }
                for (int later = 0; later <= 4; later++) {
                    spread("with full relays", empty.spread(node, now, later), full, node, now, later);
                }
            }
            full.pass(1);
        }
    }

    /** "NONE if there is none": out of sight, and by a relay that sees only one of the two. */
    private static void noneIfThereIsNone() {
        Satellitering x = new Satellitering();
        x.addStation(0);
        arrival("to itself alone", 0, x, 0, 0, 0);
        x.addStation(0);
        arrival("without relays", -1, x, 0, 1, 0);
        x.addRelay(5, 0, 4, 1);
        arrival("by a relay that sees neither", -1, x, 0, 1, LAST_MINUTE);
        x.addStation(9);
        arrival("by a relay that sees the goal alone", -1, x, 0, 3, 0);
        arrival("by a relay that sees the start alone", -1, x, 3, 0, 0);
        x.addRelay(4, 0, 4, 1);
        arrival("by two relays", 3, x, 0, 3, 0);
        arrival("by two relays from the last minute on", LAST_MINUTE + 3, x, 0, 3, LAST_MINUTE);
    }

    /** "[..] by any number of such steps": by all six relays, and by stations that lie between. */
    private static void anyNumberOfSteps() {
        arrival("by six relays", 7, chain(6), 0, 1, 0);
        Satellitering x = new Satellitering();
        for (int i = 0; i < 4; i++) {
            x.addStation(20 * i);
        }
        for (int i = 0; i < 3; i++) {
            x.addRelay(20 * i + 10, 0, 10, 1);
            x.addRelay(20 * i + 190, 0, 10, 1);
        }
        for (int i = 1; i < 4; i++) {
            arrival("by " + i + " relays and " + (i - 1) + " stations", 2 * i, x, 0, i, 0);
            arrival("by as many back", 2 * i, x, i, 0, 0);
        }
    }

    /** "[..] the least minute at which it can be there": of two ways the shorter one, by a minute or by more. */
    private static void theLeastMinute() {
        for (int sooner = 0; sooner <= 9; sooner++) {
            for (int slower = 2; slower <= 3; slower++) {
                Satellitering x = new Satellitering();
                x.addStation(0);
                x.addStation(10);
                // both see station 0 at 0, but never one another; the slower one sees station 1 at 10
                for (int relay = 2; relay <= 3; relay++) {
                    x.addRelay(relay == slower ? 0 : 359, 1, relay == slower ? 0 : 1 + sooner, 1);
                }
                arrival("to the slower one", 1, x, 0, slower, 0);
                arrival("to the faster one", 1, x, 0, 5 - slower, 0);
                arrival("from the slower one", 11, x, slower, 1, 1);
                arrival("from the faster one", 11 - sooner, x, 5 - slower, 1, 1);
                arrival("by the faster one", 11 - sooner, x, 0, 1, 0);
            }
        }
    }

    /** Promise 10, "the node that is come to earliest is gone on from first": by more steps it can be earlier. */
    private static void earliestFirst() {
        Satellitering x = new Satellitering();
        x.addStation(0);
        x.addStation(50);
        // it is at the place t at the minute t, and at 1 it sees the faster one, which is at 51 at the minute 11
        x.addRelay(0, 1, 0, 1);
        arrival("by the slower one alone", 51, x, 0, 1, 0);
        x.addRelay(356, 5, 0, 1);
        arrival("the slower one sees the faster one", 2, x, 2, 3, 1);
        x.addStation(51);
        arrival("by both of them", 12, x, 0, 4, 0);
        arrival("by the slower one, as the faster one steps over it", 51, x, 0, 1, 0);
    }

    /** Promise 12, `later` "0 to 400": after none there is only the node itself. */
    private static void spreadAfterNoMinutes() {
        Satellitering x = chain(6);
        for (int node = 0; node < 8; node++) {
            spread("after no minutes", 1, x, node, 0, 0);
            spread("after no minutes", 1, x, node, LAST_MINUTE, 0);
        }
    }

    /** Promise 12, `later` "0 to 400": what is come to just then counts. */
    private static void spreadAfter400Minutes() {
        Satellitering x = line(0, 39, 40, 41);
        spread("399 minutes", 3, x, 0, 1, 399);
        spread("400 minutes", 4, x, 0, 1, 400);
        spread("399 minutes, a minute later", 4, x, 0, 2, 399);
        spread("400 minutes, a minute later", 5, x, 0, 2, 400);
    }

    /** Promise 12, "the node itself counted" */
    private static void theNodeItselfIsCounted() {
        Satellitering x = new Satellitering();
        x.addStation(0);
        spread("a station alone", 1, x, 0, 0, 400);
        x.addStation(0);
        spread("two stations", 1, x, 1, 0, 400);
        x.addRelay(100, 0, 1, 1);
        spread("a relay out of sight", 1, x, 2, LAST_MINUTE, 400);
        x.addRelay(100, 0, 1, 1);
        spread("two relays", 2, x, 3, LAST_MINUTE, 1);
    }

    /** Promise 12, "how many nodes": all ten, but another station only by a relay. */
    private static void spreadOfAllNodes() {
        Satellitering x = new Satellitering();
        for (int i = 0; i < 4; i++) {
            x.addStation(i);
        }
        for (int i = 0; i < 6; i++) {
            x.addRelay(i, 0, 179, 1);
        }
        spread("from a relay", 1, x, 9, 0, 0);
        spread("from a relay", 10, x, 9, 0, 1);
        spread("from a relay", 10, x, 9, 0, 400);
        spread("from a station", 7, x, 3, 0, 1);
        spread("from a station", 10, x, 3, 0, 2);
    }
}
