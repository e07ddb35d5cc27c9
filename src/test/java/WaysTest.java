/** Promises 10 to 12: the earliest arrivals, found in two manners, and how far something spreads. */
public final class WaysTest {
    public static void main(String[] args) {
        steps();
        horizon();
        throughAStation();
        spread();
        spreadRefusals();
        Checks.end();
    }

    private static void arrival(Satellitering x, int node, int other, int minute, int want) {
        String asked = "(" + node + ", " + other + ", " + minute + ")";
        Checks.due("arrival" + asked, want, x.arrival(node, other, minute));
        Checks.due("arrivalByFlooding" + asked, want, x.arrivalByFlooding(node, other, minute));
    }

    /** A relay that sees two stations always: 0 and 1 are the stations, 2 the relay, 3 a station out of sight. */
    private static Satellitering still() {
        Satellitering x = new Satellitering();
        x.addStation(0);
        x.addStation(10);
        x.addRelay(5, 0, 5, 1);
        x.addStation(100);
        return x;
    }

    private static void steps() {
        Satellitering x = still();
        arrival(x, 0, 0, 5, 5);
        arrival(x, 2, 2, 1000000, 1000000);
        arrival(x, 3, 3, 0, 0);
        arrival(x, 0, 2, 0, 1);
        arrival(x, 2, 1, 7, 8);
        // one node a minute, though the relay sees both at once
        arrival(x, 0, 1, 0, 2);
        arrival(x, 1, 0, 999999, 1000001);
        arrival(x, 0, 1, 1000000, 1000002);
        arrival(x, 0, 3, 0, -1);
        arrival(x, 3, 0, 0, -1);
        arrival(x, 3, 2, 1000000, -1);
        // buffers do not count
        x.send(0, 1);
        x.send(0, 1);
        x.pass(1);
        arrival(x, 0, 1, 1, 3);
        // by the stations 1 and 3 and the relays 2 and 4
        x.addRelay(55, 0, 50, 1);
        arrival(x, 0, 3, 0, 4);
        arrival(x, 1, 3, 0, 2);
        // from relay to relay
        x.addRelay(7, 0, 60, 1);
        arrival(x, 0, 3, 0, 3);
    }

    /** The relay 2 is at place 0 each 360 minutes, and 40 minutes later at place 40. */
    private static void horizon() {
        Satellitering x = new Satellitering();
        x.addStation(0);
        x.addStation(40);
        x.addRelay(0, 1, 0, 1);
        x.addStation(41);
        arrival(x, 0, 1, 0, 41);
        arrival(x, 0, 1, 1, 401);
        arrival(x, 0, 1, 2, 401);
        arrival(x, 0, 3, 0, 42);
        arrival(x, 0, 3, 1, -1);
        arrival(x, 0, 3, 2, 402);
        arrival(x, 1, 0, 40, 361);
        arrival(x, 1, 0, 41, -1);
        arrival(x, 1, 0, 80, -1);
        arrival(x, 1, 0, 321, 721);
        arrival(x, 1, 0, 320, -1);
        // 999720 is a whole number of periods
        arrival(x, 0, 1, 999721, 1000121);
        arrival(x, 0, 3, 999721, -1);
        arrival(x, 0, 2, 1, 361);
        // so is 1000080
        arrival(x, 0, 2, 1000000, 1000081);
    }

    /** Relays that never meet: 1 brings it to the station 2, from where 3 takes it on to 4. */
    static Satellitering overAStation() {
        Satellitering x = new Satellitering();
        x.addStation(20);
        x.addRelay(20, -1, 0, 1);
        x.addStation(10);
        x.addRelay(76, -6, 0, 1);
        x.addStation(358);
        return x;
    }

    private static void throughAStation() {
        Satellitering x = overAStation();
        arrival(x, 0, 1, 0, 1);
        arrival(x, 0, 2, 0, 11);
        arrival(x, 0, 3, 0, 12);
        arrival(x, 0, 4, 0, 14);
        arrival(x, 1, 4, 11, 23);
        arrival(x, 2, 4, 11, 14);
        // the faster relay is at 358 again only at 73, the slower one at 382
        arrival(x, 2, 4, 12, 74);
    }

    private static void spread() {
        Satellitering x = still();
        Checks.due("spread(0, 0, 0)", 1, x.spread(0, 0, 0));
        Checks.due("spread(0, 0, 1)", 2, x.spread(0, 0, 1));
        Checks.due("spread(0, 0, 2)", 3, x.spread(0, 0, 2));
        Checks.due("spread(0, 0, 400)", 3, x.spread(0, 0, 400));
        Checks.due("spread(2, 5, 1)", 3, x.spread(2, 5, 1));
        Checks.due("spread(3, 0, 400)", 1, x.spread(3, 0, 400));
        Checks.due("spread(0, 1000000, 2)", 3, x.spread(0, 1000000, 2));
        Satellitering y = overAStation();
        Checks.due("spread(0, 0, 10)", 2, y.spread(0, 0, 10));
        Checks.due("spread(0, 0, 11)", 3, y.spread(0, 0, 11));
        Checks.due("spread(0, 0, 12)", 4, y.spread(0, 0, 12));
        Checks.due("spread(0, 0, 13)", 4, y.spread(0, 0, 13));
        Checks.due("spread(0, 0, 14)", 5, y.spread(0, 0, 14));
        Checks.due("spread(0, 1, 359)", 1, y.spread(0, 1, 359));
        Checks.due("spread(0, 1, 360)", 2, y.spread(0, 1, 360));
    }

    private static void spreadRefusals() {
        int[] noMinutes = {-1, 1000001, Integer.MIN_VALUE, Integer.MAX_VALUE};
        int[] noLaters = {-1, 401, Integer.MIN_VALUE, Integer.MAX_VALUE};
        for (int node : new int[] {-1, 4, Integer.MIN_VALUE, Integer.MAX_VALUE}) {
            Checks.refused("spread(" + node + ", 0, 0)", Checks.INDEX, WaysTest::still, y -> y.spread(node, 0, 0));
            Checks.refused("spread(" + node + ", -1, 0)", Checks.INDEX, WaysTest::still, y -> y.spread(node, -1, 0));
            Checks.refused("spread(" + node + ", 0, 401)", Checks.INDEX, WaysTest::still,
                    y -> y.spread(node, 0, 401));
        }
        for (int minute : noMinutes) {
            Checks.refused("spread(0, " + minute + ", 0)", Checks.ARGUMENT, WaysTest::still,
                    y -> y.spread(0, minute, 0));
        }
        for (int later : noLaters) {
            Checks.refused("spread(0, 0, " + later + ")", Checks.ARGUMENT, WaysTest::still,
                    y -> y.spread(0, 0, later));
        }
    }
}
