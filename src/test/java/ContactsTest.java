/** Promises 7 to 9: who sees whom, from when on and for how long. */
public final class ContactsTest {
    interface Question {
        long ask(Satellitering x, int node, int other, int minute);
    }

    public static void main(String[] args) {
        see();
        nextContact();
        view();
        refusals("see", (x, node, other, minute) -> x.see(node, other, minute) ? 1 : 0);
        refusals("nextContact", Satellitering::nextContact);
        refusals("view", Satellitering::view);
        refusals("arrival", Satellitering::arrival);
        refusals("arrivalByFlooding", Satellitering::arrivalByFlooding);
        Checks.end();
    }

    /** Stations 0 and 1 at place 0, relays 2 and 3 of reach 10 and 4, which start 350 and 2 and go 1 and 0 a minute. */
    private static Satellitering ring() {
        Satellitering x = new Satellitering();
        x.addStation(0);
        x.addStation(0);
        x.addRelay(350, 1, 10, 1);
        x.addRelay(2, 0, 4, 1);
        return x;
    }

    private static void see() {
        Satellitering x = ring();
        Checks.due("see at the reach, over place 0", true, x.see(0, 2, 0));
        Checks.due("see at the reach, on the other side", true, x.see(0, 2, 20));
        Checks.due("see beyond the reach", false, x.see(0, 2, 21));
        Checks.due("see before the reach", false, x.see(0, 2, 359));
        Checks.due("see the other way round", true, x.see(2, 0, 20));
        Checks.due("see a period later", true, x.see(2, 0, 380));
        Checks.due("see a period later, beyond", false, x.see(2, 0, 381));
        Checks.due("see at the last minute", x.see(0, 2, 1000000 % 360), x.see(0, 2, 1000000));
        Checks.due("see with the lesser reach, beyond", false, x.see(2, 3, 7));
        Checks.due("see with the lesser reach", true, x.see(2, 3, 8));
        Checks.due("see with the lesser reach, the other way round", true, x.see(3, 2, 16));
        Checks.due("see with the lesser reach, beyond on the other side", false, x.see(3, 2, 17));
        Checks.due("two stations at one place", false, x.see(0, 1, 0));
        Checks.due("a station and itself", false, x.see(0, 0, 0));
        Checks.due("a relay and itself", false, x.see(2, 2, 0));
        x.addRelay(180, 0, 179, 1);
        x.addRelay(180, 0, 0, 1);
        Checks.due("see across the ring with reach 179", false, x.see(0, 4, 0));
        Checks.due("see relays at one place with reach 0", true, x.see(4, 5, 0));
    }

    private static void nextContact() {
        Satellitering x = ring();
        Checks.due("nextContact now", 0, x.nextContact(0, 2, 0));
        Checks.due("nextContact within a contact", 20, x.nextContact(2, 0, 20));
        Checks.due("nextContact behind a contact", 360, x.nextContact(0, 2, 21));
        Checks.due("nextContact of relays", 8, x.nextContact(2, 3, 0));
        Checks.due("nextContact of relays a period later", 368, x.nextContact(3, 2, 17));
        // 1000000 is 280 minutes into a period
        Checks.due("nextContact from the last minute on", 1000080, x.nextContact(0, 2, 1000000));
        Checks.due("nextContact of two stations", -1, x.nextContact(0, 1, 0));
        Checks.due("nextContact of a node and itself", -1, x.nextContact(3, 3, 0));
        x.addRelay(1, 2, 0, 1);
        Checks.due("nextContact that steps over the place", -1, x.nextContact(0, 4, 0));
        x.addRelay(1, 0, 0, 1);
        Checks.due("nextContact of relays after half a period", 180, x.nextContact(4, 5, 1));
        x.addRelay(1, -1, 0, 1);
        Checks.due("nextContact just missed, 359 minutes later", 361, x.nextContact(0, 6, 2));
    }

    private static void view() {
        Satellitering x = ring();
        Checks.due("view of a whole contact", 21, x.view(0, 2, 0));
        Checks.due("view of the rest of a contact", 1, x.view(2, 0, 20));
        Checks.due("view of none", 0, x.view(2, 0, 21));
        Checks.due("view of relays", 9, x.view(2, 3, 8));
        Checks.due("view of relays the other way round", 8, x.view(3, 2, 9));
        Checks.due("view that is always", 360, x.view(0, 3, 0));
        Checks.due("view that is always, from the last minute", 360, x.view(3, 1, 1000000));
        Checks.due("view of two stations", 0, x.view(0, 1, 0));
        Checks.due("view of a node and itself", 0, x.view(2, 2, 0));
        x.addRelay(10, 1, 20, 1);
        // places 340 to 20 are the minutes 330 to 370
        Checks.due("view over the end of a period", 41, x.view(0, 4, 330));
        Checks.due("view before it", 0, x.view(0, 4, 329));
        Checks.due("view from the last minute of the period", 12, x.view(0, 4, 359));
    }

    /** What the throws clauses of all questions of two nodes and a minute say. */
    private static void refusals(String name, Question question) {
        int[] noNodes = {-1, 4, Integer.MIN_VALUE, Integer.MAX_VALUE};
        int[] noMinutes = {-1, 1000001, Integer.MIN_VALUE, Integer.MAX_VALUE};
        for (int none : noNodes) {
            for (int minute : new int[] {0, -1, 1000001}) {
                Checks.refused(name + "(" + none + ", 0, " + minute + ")", Checks.INDEX, ContactsTest::ring,
                        y -> question.ask(y, none, 0, minute));
                Checks.refused(name + "(0, " + none + ", " + minute + ")", Checks.INDEX, ContactsTest::ring,
                        y -> question.ask(y, 0, none, minute));
            }
        }
        for (int minute : noMinutes) {
            Checks.refused(name + "(0, 2, " + minute + ")", Checks.ARGUMENT, ContactsTest::ring,
                    y -> question.ask(y, 0, 2, minute));
            Checks.refused(name + "(2, 2, " + minute + ")", Checks.ARGUMENT, ContactsTest::ring,
                    y -> question.ask(y, 2, 2, minute));
        }
        for (int minute : new int[] {0, 1000000}) {
            String got = Checks.thrownBy(ring(), y -> question.ask(y, 0, 2, minute));
            Checks.due(name + "(0, 2, " + minute + ") is fine", "0", got);
        }
    }
}
