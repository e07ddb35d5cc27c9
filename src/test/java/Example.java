import java.util.NoSuchElementException;

public final class Example {
    public static void main(String[] args) {
        Satellitering x = new Satellitering();
        int a = x.addStation(0);
        int b = x.addStation(180);
        int relay = x.addRelay(350, 10, 15, 2); // place, speed, reach, capacity
        System.out.println(relay); // 2
        System.out.println(x.nodes()); // 3
        System.out.println(x.setCapacity(relay, 1)); // 2
        System.out.println(x.placeAt(relay, 2)); // 10

        System.out.println(x.see(a, relay, 0)); // true
        System.out.println(x.view(a, relay, 0)); // 3
        System.out.println(x.nextContact(relay, b, 0)); // 18
        System.out.println(x.nextContact(a, b, 0) == Satellitering.NONE); // true

        System.out.println(x.arrival(a, b, 0)); // 19
        System.out.println(x.arrivalByFlooding(a, b, 0)); // 19
        System.out.println(x.spread(a, 0, 18)); // 2
        System.out.println(x.spread(a, 0, 19)); // 3

        int first = x.send(a, b);
        int second = x.send(a, b);
        System.out.println(x.messages()); // 2
        System.out.println(x.pass(3)); // 0
        System.out.println(x.nodeOf(first)); // 2
        System.out.println(x.nodeOf(second)); // 0
        System.out.println(x.blocked(second)); // 1
        System.out.println(x.load(relay)); // 1
        System.out.println(x.relayOf(a)); // -1
        System.out.println(x.pass(16)); // 1
        System.out.println(x.now()); // 19
        System.out.println(x.arrivedAt(first)); // 19
        System.out.println(x.hops(first)); // 2
        System.out.println(x.hopNode(first, 1)); // 1
        System.out.println(x.hopMinute(first, 1)); // 18
        System.out.println(x.relayOf(b)); // 2
        System.out.println(x.handovers(b)); // 0

        try {
            x.arrivedAt(second);
        } catch (NoSuchElementException e) {
            System.out.println("it has not arrived"); // it has not arrived
        }
    }
}
