import java.util.function.Supplier;

/** Promises 1 to 6: a new object, stations, relays, capacities and places. */
public final class NodesTest {
    public static void main(String[] args) {
        newObject();
        addStation();
        addRelay();
        setCapacity();
        nodes();
        placeAt();
        Checks.end();
    }

    /** Station 0, relay 1 with room for 3, station 2. */
    private static Satellitering few() {
        Satellitering x = new Satellitering();
        x.addStation(0);
        x.addRelay(0, 1, 5, 3);
        x.addStation(20);
        x.send(0, 2);
        return x;
    }

    private static Satellitering full() {
        Satellitering x = new Satellitering();
        for (int i = 0; i < 4; i++) {
            x.addStation(i * 90);
        }
        for (int i = 0; i < 6; i++) {
            x.addRelay(i * 60, i, 30, 1 + i);
        }
        return x;
    }

    private static void newObject() {
        Satellitering x = new Satellitering();
        Checks.due("nodes() of a new object", 0, x.nodes());
        Checks.due("messages() of a new object", 0, x.messages());
        Checks.due("now() of a new object", 0, x.now());
        Checks.due("NONE", -1, Satellitering.NONE);
        Supplier<Satellitering> start = Satellitering::new;
        Checks.refused("load(0) of a new object", Checks.INDEX, start, y -> y.load(0));
        Checks.refused("nodeOf(0) of a new object", Checks.INDEX, start, y -> y.nodeOf(0));
        Checks.refused("send(0, 1) of a new object", Checks.INDEX, start, y -> y.send(0, 1));
        Satellitering other = few();
        Checks.due("nodes() of a second object", 0, x.nodes());
        Checks.due("nodes() of a third object", 3, other.nodes());
    }

    private static void addStation() {
        Satellitering x = new Satellitering();
        Checks.due("addStation(0)", 0, x.addStation(0));
        Checks.due("addStation(359)", 1, x.addStation(359));
        Checks.due("addRelay between stations", 2, x.addRelay(0, 0, 0, 1));
        Checks.due("addStation(359) again", 3, x.addStation(359));
        Checks.due("addStation(1)", 4, x.addStation(1));
        Checks.due("nodes() after 4 stations", 5, x.nodes());
        Checks.due("placeAt of a station", 359, x.placeAt(3, 77));
        for (int place : new int[] {-1, 360, Integer.MIN_VALUE, Integer.MAX_VALUE}) {
            Checks.refused("addStation(" + place + ")", Checks.ARGUMENT, NodesTest::few, y -> y.addStation(place));
            Checks.refused("a fifth addStation(" + place + ")", Checks.ARGUMENT, NodesTest::full,
                    y -> y.addStation(place));
        }
        Checks.refused("a fifth addStation(5)", Checks.STATE, NodesTest::full, y -> y.addStation(5));
    }

    private static void addRelay() {
        Satellitering x = new Satellitering();
        Checks.due("addRelay of the least", 0, x.addRelay(0, -30, 0, 1));
        Checks.due("addRelay of the most", 1, x.addRelay(359, 30, 179, 9));
        Checks.due("addStation between relays", 2, x.addStation(0));
        for (int i = 3; i <= 6; i++) {
            Checks.due("addRelay " + i, i, x.addRelay(i, i, i, i));
        }
        Checks.due("nodes() after 6 relays", 7, x.nodes());
        Checks.due("setCapacity tells the capacity that was given", 9, x.setCapacity(1, 1));
        int[][] wrong = {{-1, 0, 0, 1}, {360, 0, 0, 1}, {0, -31, 0, 1}, {0, 31, 0, 1}, {0, 0, -1, 1},
            {0, 0, 180, 1}, {0, 0, 0, 0}, {0, 0, 0, 10}, {Integer.MIN_VALUE, 0, 0, 1},
            {0, Integer.MIN_VALUE, 0, 1}, {0, 0, Integer.MAX_VALUE, 1}, {0, 0, 0, Integer.MAX_VALUE}};
        for (int[] w : wrong) {
            String call = "addRelay(" + w[0] + ", " + w[1] + ", " + w[2] + ", " + w[3] + ")";
            Checks.refused(call, Checks.ARGUMENT, NodesTest::few, y -> y.addRelay(w[0], w[1], w[2], w[3]));
            Checks.refused("a seventh " + call, Checks.ARGUMENT, NodesTest::full,
                    y -> y.addRelay(w[0], w[1], w[2], w[3]));
        }
        Checks.refused("a seventh addRelay(0, 0, 0, 1)", Checks.STATE, NodesTest::full,
                y -> y.addRelay(0, 0, 0, 1));
    }

    private static void setCapacity() {
        Satellitering x = few();
        Checks.due("setCapacity(1, 9)", 3, x.setCapacity(1, 9));
        Checks.due("setCapacity(1, 1)", 9, x.setCapacity(1, 1));
        Checks.due("setCapacity(1, 2)", 1, x.setCapacity(1, 2));
        x.send(0, 2);
        x.pass(6);
        Checks.due("load of the relay", 2, x.load(1));
        Checks.due("setCapacity below the load", 2, x.setCapacity(1, 1));
        Checks.due("messages stay at the relay", 2, x.load(1));
        Checks.due("pass(30) delivers them", 2, x.pass(30));
        for (int relay : new int[] {-1, 3, 0, 2, Integer.MIN_VALUE, Integer.MAX_VALUE}) {
            Checks.refused("setCapacity(" + relay + ", 2)", Checks.INDEX, NodesTest::few,
                    y -> y.setCapacity(relay, 2));
            Checks.refused("setCapacity(" + relay + ", 10)", Checks.INDEX, NodesTest::few,
                    y -> y.setCapacity(relay, 10));
        }
        for (int capacity : new int[] {0, 10, -1, Integer.MIN_VALUE, Integer.MAX_VALUE}) {
            Checks.refused("setCapacity(1, " + capacity + ")", Checks.ARGUMENT, NodesTest::few,
                    y -> y.setCapacity(1, capacity));
        }
    }

    private static void nodes() {
        Satellitering x = new Satellitering();
        x.addStation(0);
        Checks.due("nodes() with one station", 1, x.nodes());
        x.addRelay(0, 0, 0, 1);
        Checks.due("nodes() with a relay too", 2, x.nodes());
        Checks.due("nodes() of a full ring", 10, full().nodes());
    }

    private static void placeAt() {
        Satellitering x = new Satellitering();
        x.addStation(200);
        x.addRelay(350, 7, 0, 1);
        x.addRelay(3, -30, 0, 1);
        Checks.due("placeAt(0, 0)", 200, x.placeAt(0, 0));
        Checks.due("placeAt(0, 1000000)", 200, x.placeAt(0, 1000000));
        Checks.due("placeAt(1, 0)", 350, x.placeAt(1, 0));
        Checks.due("placeAt(1, 1)", 357, x.placeAt(1, 1));
        Checks.due("placeAt(1, 2)", 4, x.placeAt(1, 2));
        Checks.due("placeAt(1, 1000000)", 150, x.placeAt(1, 1000000));
        Checks.due("placeAt(2, 0)", 3, x.placeAt(2, 0));
        Checks.due("placeAt(2, 1)", 333, x.placeAt(2, 1));
        Checks.due("placeAt(2, 1000000)", 243, x.placeAt(2, 1000000));
        x.pass(10);
        Checks.due("placeAt(1, 1) later", 357, x.placeAt(1, 1));
        for (int node : new int[] {-1, 3, Integer.MIN_VALUE, Integer.MAX_VALUE}) {
            Checks.refused("placeAt(" + node + ", 0)", Checks.INDEX, NodesTest::few, y -> y.placeAt(node, 0));
            Checks.refused("placeAt(" + node + ", -1)", Checks.INDEX, NodesTest::few, y -> y.placeAt(node, -1));
        }
        for (int minute : new int[] {-1, 1000001, Integer.MIN_VALUE, Integer.MAX_VALUE}) {
            Checks.refused("placeAt(1, " + minute + ")", Checks.ARGUMENT, NodesTest::few,
                    y -> y.placeAt(1, minute));
        }
    }
}
