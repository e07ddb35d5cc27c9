/** "Terms", the ring and contacts, and promises 6 to 9: each sentence with an edge has a method of its own. */
public final class RingEdgesTest {
    private static final int LAST_MINUTE = 1000000;

    public static void main(String[] args) {
        behind359Comes0();
        distanceIsTheLesserWayRound();
        nodesAreNumberedInOneRow();
        aStationStaysAtItsPlace();
        aRelayIsAtItsPlaceAtMinute0();
        speedsAtTheirEnds();
        reachOfAStationsRelay();
        lesserReachOfTwoRelays();
        twoStationsNeverSeeOneAnother();
        noNodeSeesItself();
        whatIsSeenComesAgain();
        aContactIsAsLongAsPossible();
        aContactThatIsSteppedOver();
        theFirstMinuteFromAMinuteOn();
        noneIfTheyNeverDo();
        viewIs0IfTheyDoNot();
        viewIsAtMost360();
        Checks.end();
    }

    private static Satellitering stationAndRelay(int station, int place, int speed, int reach) {
        Satellitering x = new Satellitering();
        x.addStation(station);
        x.addRelay(place, speed, reach, 1);
        return x;
    }

    /** Both ways of asking must answer the same. */
    private static void sees(String what, boolean want, Satellitering x, int node, int other, int minute) {
        String asked = what + ": see(" + node + ", " + other + ", " + minute + ")";
        Checks.due(asked, want, x.see(node, other, minute));
        Checks.due(asked + " the other way round", want, x.see(other, node, minute));
    }

    private static void contact(Satellitering x, int minute, int next, int view) {
        Checks.due("nextContact(0, 1, " + minute + ")", next, x.nextContact(0, 1, minute));
        Checks.due("nextContact(1, 0, " + minute + ")", next, x.nextContact(1, 0, minute));
        Checks.due("view(0, 1, " + minute + ")", view, x.view(0, 1, minute));
        Checks.due("view(1, 0, " + minute + ")", view, x.view(1, 0, minute));
    }

    /** "The ring has 360 places, numbered 0 to 359; behind 359 comes 0." */
    private static void behind359Comes0() {
        Satellitering x = new Satellitering();
        x.addRelay(359, 1, 0, 1);
        x.addRelay(0, -1, 0, 1);
        x.addRelay(359, 30, 0, 1);
        x.addRelay(0, -30, 0, 1);
        int[][] due = {{0, 0, 359}, {0, 1, 0}, {0, 2, 1}, {0, 360, 359}, {0, 361, 0},
            {1, 0, 0}, {1, 1, 359}, {1, 2, 358}, {1, 359, 1}, {1, 360, 0},
            {2, 1, 29}, {2, 11, 329}, {2, 12, 359}, {2, 13, 29},
            {3, 1, 330}, {3, 11, 30}, {3, 12, 0}, {3, 13, 330}};
        for (int[] d : due) {
            Checks.due("placeAt(" + d[0] + ", " + d[1] + ")", d[2], x.placeAt(d[0], d[1]));
        }
        sees("one step over the end, reach 1", true, stationAndRelay(0, 359, 0, 1), 0, 1, 0);
        sees("one step over the end, reach 1", true, stationAndRelay(359, 0, 0, 1), 0, 1, 0);
        sees("one step over the end, reach 0", false, stationAndRelay(0, 359, 0, 0), 0, 1, 0);
        sees("one step over the end, reach 0", false, stationAndRelay(359, 0, 0, 0), 0, 1, 0);
    }

    /** "The distance of two places is the lesser number of steps from the one to the other, either way round." */
    private static void distanceIsTheLesserWayRound() {
        for (int station : new int[] {0, 1, 179, 180, 181, 359}) {
            for (int reach : new int[] {0, 1, 90, 178, 179}) {
                Satellitering x = stationAndRelay(station, 0, 1, reach);
                for (int place = 0; place < 360; place++) {
                    int up = (station - place + 360) % 360;
                    int down = (place - station + 360) % 360;
                    sees("station " + station + ", reach " + reach, Math.min(up, down) <= reach, x, 0, 1, place);
                }
            }
        }
        sees("179 steps up", true, stationAndRelay(0, 179, 0, 179), 0, 1, 0);
        sees("180 steps either way", false, stationAndRelay(0, 180, 0, 179), 0, 1, 0);
        sees("179 steps down", true, stationAndRelay(0, 181, 0, 179), 0, 1, 0);
    }

    /** "[..] at most 4 stations and 6 relays, numbered from 0 on in the order in which they are added, all in one row." */
    private static void nodesAreNumberedInOneRow() {
        for (String order : new String[] {"ssssrrrrrr", "rrrrrrssss", "srsrsrsrrr", "rrrsssrrrs"}) {
            Satellitering x = new Satellitering();
            for (int i = 0; i < 10; i++) {
                boolean station = order.charAt(i) == 's';
                Checks.due(order + ": nodes() before " + i, i, x.nodes());
                int number = station ? x.addStation(10 * i) : x.addRelay(10 * i, 1, 0, 1 + i % 9);
                Checks.due(order + ": the number of node " + i, i, number);
            }
            for (int i = 0; i < 10; i++) {
                int node = i;
                boolean station = order.charAt(i) == 's';
                Checks.due(order + ": placeAt(" + i + ", 0)", 10 * i, x.placeAt(i, 0));
                Checks.due(order + ": placeAt(" + i + ", 1)", station ? 10 * i : 10 * i + 1, x.placeAt(i, 1));
                Checks.due(order + ": relayOf(" + i + ")", station ? "-1" : "throws.IndexOutOfBoundsException",
                        Checks.outcome(x, y -> y.relayOf(node)));
                Checks.due(order + ": setCapacity(" + i + ", 1)",
                        station ? "throws.IndexOutOfBoundsException" : Integer.toString(1 + i % 9),
                        Checks.outcome(x, y -> y.setCapacity(node, 1)));
            }
            Checks.due(order + ": a fifth station", "throws.IllegalStateException",
                    Checks.outcome(x, y -> y.addStation(0)));
            Checks.due(order + ": a seventh relay", "throws.IllegalStateException",
                    Checks.outcome(x, y -> y.addRelay(0, 0, 0, 1)));
            Checks.due(order + ": nodes() of all", 10, x.nodes());
        }
        Satellitering y = new Satellitering();
        for (int i = 0; i < 6; i++) {
            y.addRelay(0, 0, 0, 1);
        }
        Checks.due("a seventh relay without stations", "throws.IllegalStateException",
                Checks.outcome(y, z -> z.addRelay(0, 0, 0, 1)));
        Checks.due("the first station behind it", 6, y.addStation(0));
        Satellitering z = new Satellitering();
        for (int i = 0; i < 4; i++) {
            z.addStation(0);
        }
        Checks.due("a fifth station without relays", "throws.IllegalStateException",
                Checks.outcome(z, w -> w.addStation(0)));
        Checks.due("the first relay behind it", 4, z.addRelay(0, 0, 0, 1));
    }

    /** "A station stays at its place." */
    private static void aStationStaysAtItsPlace() {
        for (int place : new int[] {0, 1, 180, 358, 359}) {
            Satellitering x = new Satellitering();
            x.addStation(place);
            for (int minute : new int[] {0, 1, 359, 360, 361, LAST_MINUTE}) {
                Checks.due("placeAt(0, " + minute + ")", place, x.placeAt(0, minute));
            }
            x.pass(30);
            Checks.due("placeAt(0, 30) at 30", place, x.placeAt(0, 30));
        }
    }

    /** "A relay has a place at the minute 0 and a speed": at 0, not at the minute at which it is added. */
    private static void aRelayIsAtItsPlaceAtMinute0() {
        Satellitering x = new Satellitering();
        x.pass(10);
        x.addRelay(100, 3, 0, 1);
        Checks.due("placeAt(0, 0) of a relay that came at 10", 100, x.placeAt(0, 0));
        Checks.due("placeAt(0, 10) of a relay that came at 10", 130, x.placeAt(0, 10));
        x.addStation(130);
        x.addStation(100);
        Checks.due("the station where it is at 10", 0, x.relayOf(1));
        Checks.due("the station where it was at 0", -1, x.relayOf(2));
        sees("where it was at 0", true, x, 0, 2, 0);
    }

    /** "[..] its place at the minute t is that place and t times the speed, taken around the ring." */
    private static void speedsAtTheirEnds() {
        // 30 times 1000000 is 120 more than a whole number of rounds, 29 times it is 200 more
        int[][] due = {{0, 30, 120}, {0, -30, 240}, {359, 30, 119}, {359, -30, 239}, {240, 30, 0}, {239, 30, 359},
            {120, -30, 0}, {119, -30, 359}, {0, 29, 200}, {0, -29, 160}, {0, 0, 0}, {359, 0, 359}, {0, 1, 280},
            {0, -1, 80}};
        for (int[] d : due) {
            Satellitering x = new Satellitering();
            x.addRelay(d[0], d[1], 179, 9);
            String of = " of place " + d[0] + ", speed " + d[1];
            Checks.due("placeAt(0, 0)" + of, d[0], x.placeAt(0, 0));
            Checks.due("placeAt(0, 1)" + of, Math.floorMod(d[0] + d[1], 360), x.placeAt(0, 1));
            Checks.due("placeAt(0, 360)" + of, d[0], x.placeAt(0, 360));
            Checks.due("placeAt(0, 1000000)" + of, d[2], x.placeAt(0, LAST_MINUTE));
        }
    }

    /** "A station and a relay see one another at a minute if their distance then is at most the reach of the relay" */
    private static void reachOfAStationsRelay() {
        for (int reach : new int[] {0, 1, 2, 89, 90, 178, 179}) {
            for (int station : new int[] {0, 100, 359}) {
                for (int side : new int[] {1, -1}) {
                    int at = Math.floorMod(station + side * reach, 360);
                    int beyond = Math.floorMod(station + side * (reach + 1), 360);
                    String what = "station " + station + ", reach " + reach + ", side " + side;
                    sees(what + ", at the reach", true, stationAndRelay(station, at, 0, reach), 0, 1, 0);
                    sees(what + ", one beyond", false, stationAndRelay(station, beyond, 0, reach), 0, 1, 0);
                }
            }
        }
    }

    /** "[..] two unlike relays do if their distance is at most the lesser one of their reaches." */
    private static void lesserReachOfTwoRelays() {
        int[][] reaches = {{0, 0}, {0, 1}, {1, 0}, {0, 179}, {179, 0}, {5, 6}, {6, 5}, {5, 5}, {178, 179}, {179, 178},
            {179, 179}};
        for (int[] r : reaches) {
            int lesser = Math.min(r[0], r[1]);
            for (int side : new int[] {1, -1}) {
                Satellitering x = new Satellitering();
                x.addRelay(10, 0, r[0], 1);
                x.addRelay(Math.floorMod(10 + side * lesser, 360), 0, r[1], 1);
                x.addRelay(Math.floorMod(10 + side * (lesser + 1), 360), 0, r[1], 1);
                String what = "reaches " + r[0] + " and " + r[1] + ", side " + side;
                sees(what + ", at the lesser one", true, x, 0, 1, 0);
                sees(what + ", one beyond it", false, x, 0, 2, 0);
            }
        }
        Satellitering same = new Satellitering();
        same.addRelay(77, 7, 0, 3);
        same.addRelay(77, 7, 0, 3);
        sees("two relays that are given the same", true, same, 0, 1, 123);
        Checks.due("view of two relays that are given the same", 360, same.view(0, 1, 0));
    }

    /** "Two stations never do" */
    private static void twoStationsNeverSeeOneAnother() {
        for (int place : new int[] {0, 1, 180, 359}) {
            Satellitering x = new Satellitering();
            x.addStation(0);
            x.addStation(place);
            x.addRelay(0, 0, 179, 9);
            x.addRelay(place, 0, 179, 9);
            for (int minute : new int[] {0, 1, 359, 360, LAST_MINUTE}) {
                sees("two stations, 0 and " + place, false, x, 0, 1, minute);
                Checks.due("nextContact of two stations", -1, x.nextContact(0, 1, minute));
                Checks.due("view of two stations", 0, x.view(1, 0, minute));
            }
        }
    }

    /** "[..] nor does a node see itself." */
    private static void noNodeSeesItself() {
        Satellitering x = new Satellitering();
        x.addStation(0);
        x.addRelay(0, 0, 0, 1);
        x.addRelay(0, 0, 179, 9);
        x.addRelay(359, 30, 179, 9);
        for (int node = 0; node < 4; node++) {
            for (int minute : new int[] {0, 1, 359, 360, LAST_MINUTE}) {
                sees("a node and itself", false, x, node, node, minute);
                Checks.due("nextContact of " + node + " and itself", -1, x.nextContact(node, node, minute));
                Checks.due("view of " + node + " and itself", 0, x.view(node, node, minute));
            }
        }
    }

    /** "(What is seen comes again every 360 minutes.)" */
    private static void whatIsSeenComesAgain() {
        Satellitering x = stationAndRelay(7, 0, 1, 0);
        for (int minute : new int[] {7, 367, 727, 999727}) {
            sees("in each period", true, x, 0, 1, minute);
            sees("a minute earlier", false, x, 0, 1, minute - 1);
            sees("a minute later", false, x, 0, 1, minute + 1);
            contact(x, minute, minute, 1);
            contact(x, minute + 1, minute + 360, 0);
            contact(x, minute - 1, minute, 0);
        }
        // places 0 and 179 at the minute 0, and nearer to one another by 1 in each minute
        Satellitering relays = new Satellitering();
        relays.addRelay(0, 2, 3, 1);
        relays.addRelay(179, 1, 3, 1);
        for (int period : new int[] {0, 360, 999720 - 360}) {
            sees("relays, at their reach", true, relays, 0, 1, period + 176);
            sees("relays, at their reach behind", true, relays, 0, 1, period + 182);
            sees("relays, a minute before", false, relays, 0, 1, period + 175);
            sees("relays, a minute behind", false, relays, 0, 1, period + 183);
            contact(relays, period + 176, period + 176, 7);
            contact(relays, period + 183, period + 536, 0);
        }
    }

    /** "A contact of two nodes is a run of minutes, as long as possible [..]": over the end of a period, too. */
    private static void aContactIsAsLongAsPossible() {
        // the relay is at 340 at the minute 350, at 0 at the minute 370 and at 20 at the minute 390
        Satellitering x = stationAndRelay(0, 350, 1, 20);
        contact(x, 0, 0, 31);
        contact(x, 1, 1, 30);
        contact(x, 30, 30, 1);
        contact(x, 31, 350, 0);
        contact(x, 349, 350, 0);
        contact(x, 350, 350, 41);
        contact(x, 359, 359, 32);
        contact(x, 360, 360, 31);
        contact(x, 390, 390, 1);
        contact(x, 391, 710, 0);
        // all minutes of a period but one
        Satellitering wide = stationAndRelay(0, 180, 1, 179);
        contact(wide, 0, 1, 0);
        contact(wide, 1, 1, 359);
        contact(wide, 2, 2, 358);
        contact(wide, 359, 359, 1);
        contact(wide, 360, 361, 0);
    }

    /** A contact is told by whole minutes: what is passed between two of them is not seen. */
    private static void aContactThatIsSteppedOver() {
        Satellitering missed = stationAndRelay(15, 0, 30, 14);
        contact(missed, 0, -1, 0);
        Satellitering met = stationAndRelay(15, 0, 30, 15);
        contact(met, 0, 0, 2);
        contact(met, 1, 1, 1);
        contact(met, 2, 12, 0);
        contact(met, 11, 12, 0);
        Satellitering back = stationAndRelay(345, 0, -30, 15);
        contact(back, 0, 0, 2);
        contact(back, 2, 12, 0);
    }

    /** Promise 8, "the first minute from a minute on": the minute itself, one later, 359 later; beyond the last. */
    private static void theFirstMinuteFromAMinuteOn() {
        Satellitering x = stationAndRelay(0, 0, 1, 0);
        contact(x, 0, 0, 1);
        contact(x, 1, 360, 0);
        contact(x, 359, 360, 0);
        contact(x, 360, 360, 1);
        // 1000080 is a whole number of periods
        contact(x, LAST_MINUTE, 1000080, 0);
        contact(stationAndRelay(0, 80, 1, 0), LAST_MINUTE, LAST_MINUTE, 1);
        contact(stationAndRelay(0, 79, 1, 0), LAST_MINUTE, LAST_MINUTE + 1, 0);
        contact(stationAndRelay(0, 81, 1, 0), LAST_MINUTE, LAST_MINUTE + 359, 0);
        contact(stationAndRelay(0, 80, 1, 2), LAST_MINUTE, LAST_MINUTE, 3);
    }

    /** Promise 8, "NONE if they never do" */
    private static void noneIfTheyNeverDo() {
        contact(stationAndRelay(1, 0, 0, 0), 0, -1, 0);
        contact(stationAndRelay(1, 0, 2, 0), 0, -1, 0);
        contact(stationAndRelay(180, 0, 0, 179), LAST_MINUTE, -1, 0);
        Satellitering abreast = new Satellitering();
        abreast.addRelay(0, 5, 9, 1);
        abreast.addRelay(10, 5, 179, 1);
        contact(abreast, 0, -1, 0);
        contact(abreast, 359, -1, 0);
        contact(abreast, LAST_MINUTE, -1, 0);
    }

    /** Promise 9, "0 if they do not see one another at the minute": however soon they will. */
    private static void viewIs0IfTheyDoNot() {
        Satellitering x = stationAndRelay(6, 0, 1, 5);
        contact(x, 0, 1, 0);
        contact(x, 1, 1, 11);
        contact(x, 11, 11, 1);
        contact(x, 12, 361, 0);
    }

    /** Promise 9, "at most 360" */
    private static void viewIsAtMost360() {
        for (int minute : new int[] {0, 1, 359, 360, 361, LAST_MINUTE}) {
            contact(stationAndRelay(0, 0, 0, 0), minute, minute, 360);
            contact(stationAndRelay(0, 179, 0, 179), minute, minute, 360);
            Satellitering abreast = new Satellitering();
            abreast.addRelay(0, -30, 10, 1);
            abreast.addRelay(10, -30, 179, 1);
            contact(abreast, minute, minute, 360);
        }
    }
}
