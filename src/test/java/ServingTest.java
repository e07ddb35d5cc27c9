/** Promises 24 and 25: the relay of a station, and its handovers. */
public final class ServingTest {
    public static void main(String[] args) {
        whenAdded();
        lost();
        always();
        refusals();
        Checks.end();
    }

    private static void serves(Satellitering x, String when, int station, int relay, int handovers) {
        Checks.due("relayOf(" + station + ") " + when, relay, x.relayOf(station));
        Checks.due("handovers(" + station + ") " + when, handovers, x.handovers(station));
    }

    private static void passTo(Satellitering x, int minute) {
        while (x.now() < minute) {
            x.pass(Math.min(30, minute - x.now()));
        }
    }

    private static void whenAdded() {
        Satellitering x = new Satellitering();
        x.addStation(0);
        serves(x, "without relays", 0, -1, 0);
        x.addRelay(5, 0, 10, 1);
        serves(x, "when the relay came later", 0, -1, 0);
        x.addStation(0);
        serves(x, "when the relay was there", 2, 1, 0);
        x.pass(1);
        serves(x, "after a minute", 0, 1, 0);
        serves(x, "after a minute", 2, 1, 0);
        x.addStation(100);
        x.pass(30);
        serves(x, "out of sight", 3, -1, 0);
    }

    /** A place 0 is seen from 0 in the minutes 0 to 20 of each period, from 1 in 355 to 15, from 2 in 5 to 35. */
    private static void lost() {
        Satellitering x = new Satellitering();
        x.addRelay(350, 1, 10, 1);
        x.addRelay(355, 1, 10, 1);
        x.addRelay(340, 1, 15, 1);
        x.addStation(0);
        serves(x, "at 0: the one seen longest", 3, 0, 0);
        passTo(x, 20);
        serves(x, "at 20: kept, though another is seen longer", 3, 0, 0);
        passTo(x, 21);
        serves(x, "at 21: handed over", 3, 2, 1);
        passTo(x, 35);
        serves(x, "at 35: kept", 3, 2, 1);
        passTo(x, 36);
        serves(x, "at 36: none is seen", 3, -1, 1);
        passTo(x, 354);
        serves(x, "at 354: none is seen", 3, -1, 1);
        passTo(x, 355);
        serves(x, "at 355: no handover, as it had none", 3, 1, 1);
        passTo(x, 375);
        serves(x, "at 375: kept", 3, 1, 1);
        passTo(x, 376);
        serves(x, "at 376: of two the one that is seen longer from now on", 3, 2, 2);
        passTo(x, 395);
        serves(x, "at 395: kept", 3, 2, 2);
        x.addStation(0);
        serves(x, "at 395: the only one", 4, 2, 0);
        passTo(x, 725);
        x.addStation(0);
        serves(x, "at 725: seen longest from now on", 5, 2, 0);
        serves(x, "at 725: kept", 4, 1, 0);
    }

    private static void always() {
        Satellitering x = new Satellitering();
        x.addRelay(0, 1, 20, 1);
        x.addRelay(10, 0, 20, 1);
        x.addRelay(0, 0, 179, 1);
        x.addStation(0);
        serves(x, "which two see always: the lower number", 3, 1, 0);
        Satellitering y = new Satellitering();
        y.addStation(30);
        y.addRelay(20, 1, 10, 1);
        y.addRelay(40, -1, 10, 1);
        y.pass(1);
        serves(y, "which two see as long: the lower number", 0, 1, 0);
        y.pass(19);
        serves(y, "at their last minute", 0, 1, 0);
        y.addRelay(30, 0, 0, 1);
        y.pass(1);
        serves(y, "then a third one", 0, 3, 1);
        passTo(y, 400);
        serves(y, "for ever", 0, 3, 1);
    }

    private static Satellitering served() {
        Satellitering x = new Satellitering();
        x.addRelay(350, 1, 10, 1);
        x.addStation(0);
        x.pass(30);
        return x;
    }

    private static void refusals() {
        for (int station : new int[] {-1, 0, 2, Integer.MIN_VALUE, Integer.MAX_VALUE}) {
            Checks.refused("relayOf(" + station + ")", Checks.INDEX, ServingTest::served, y -> y.relayOf(station));
            Checks.refused("handovers(" + station + ")", Checks.INDEX, ServingTest::served,
                    y -> y.handovers(station));
        }
    }
}
