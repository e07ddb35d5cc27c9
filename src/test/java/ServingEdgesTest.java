/** "Terms", serving, and promises 24 and 25: each sentence with an edge has a method of its own. */
public final class ServingEdgesTest {
    public static void main(String[] args) {
        whenAStationIsAdded();
        notWhenARelayIsAdded();
        wheneverAMinuteHasPassed();
        eachStationDoes();
        seenAtItsReach();
        keepsWhatIsSeen();
        takesTheOneSeenLongest();
        thisMinuteCounted();
        atMost360();
        ofSeveralTheLowestNumber();
        noHandoverIfItHadNone();
        aHandoverWithoutAGap();
        noneIfNoneIsSeen();
        itLooksAtTheMinuteThatBegins();
        anyNumberOfHandovers();
        Checks.end();
    }

    private static void serves(Satellitering x, int station, int relay, int handovers) {
        String of = "(" + station + ") at " + x.now();
        Checks.due("relayOf" + of, relay, x.relayOf(station));
        Checks.due("handovers" + of, handovers, x.handovers(station));
    }

    private static void passTo(Satellitering x, int minute) {
        while (x.now() < minute) {
            x.pass(Math.min(30, minute - x.now()));
        }
    }

    /** Six relays of reach 0, the relay i of which is at the place 0 at the minutes i, 360 + i ..; then a station. */
    private static Satellitering oneByOne() {
        Satellitering x = new Satellitering();
        for (int i = 0; i < 6; i++) {
            x.addRelay(Math.floorMod(-i, 360), 1, 0, 1);
        }
        x.addStation(0);
        return x;
    }

    /** "When a station is added, it looks for its relay": without a relay, beside one, and at a later minute. */
    private static void whenAStationIsAdded() {
        Satellitering x = new Satellitering();
        serves(x, x.addStation(0), -1, 0);
        x.addRelay(0, 1, 0, 1);
        serves(x, x.addStation(0), 1, 0);
        serves(x, x.addStation(1), -1, 0);
        x.pass(1);
        serves(x, x.addStation(1), 1, 0);
        Satellitering late = new Satellitering();
        late.addRelay(0, 1, 0, 1);
        late.pass(30);
        serves(late, late.addStation(0), -1, 0);
        serves(late, late.addStation(30), 0, 0);
    }

    /** It is then, and when a minute has passed, that a station looks: not when a relay is added. */
    private static void notWhenARelayIsAdded() {
        Satellitering x = new Satellitering();
        x.addStation(0);
        x.addRelay(0, 0, 179, 1);
        serves(x, 0, -1, 0);
        x.addStation(0);
        serves(x, 0, -1, 0);
        serves(x, 2, 1, 0);
        x.send(0, 2);
        x.setCapacity(1, 9);
        Checks.due("pass(0)", "throws.IllegalArgumentException", Checks.outcome(x, y -> y.pass(0)));
        serves(x, 0, -1, 0);
        x.pass(1);
        serves(x, 0, 1, 0);
    }

    /** "[..] whenever a minute has passed": at each minute of a pass, not at its end alone. */
    private static void wheneverAMinuteHasPassed() {
        Satellitering x = oneByOne();
        for (int i = 0; i < 6; i++) {
            serves(x, 6, i, i);
            x.pass(1);
        }
        serves(x, 6, -1, 5);
        Satellitering y = oneByOne();
        y.pass(5);
        serves(y, 6, 5, 5);
        Satellitering z = oneByOne();
        z.pass(30);
        serves(z, 6, -1, 5);
        passTo(z, 365);
        serves(z, 6, 5, 10);
    }

    /** "[..] each station does": the first, the last, and those between. */
    private static void eachStationDoes() {
        Satellitering x = new Satellitering();
        x.addStation(10);
        x.addRelay(0, 1, 0, 1);
        x.addStation(10);
        x.addStation(11);
        x.addRelay(359, 1, 0, 1);
        x.addStation(10);
        passTo(x, 10);
        serves(x, 0, 1, 0);
        serves(x, 2, 1, 0);
        serves(x, 3, -1, 0);
        serves(x, 5, 1, 0);
        passTo(x, 11);
        serves(x, 0, 4, 1);
        serves(x, 2, 4, 1);
        serves(x, 3, 1, 0);
        serves(x, 5, 4, 1);
        passTo(x, 12);
        serves(x, 0, -1, 1);
        serves(x, 2, -1, 1);
        serves(x, 3, 4, 1);
        serves(x, 5, -1, 1);
    }

    /** "[..] the relays that are seen now": at their reach, and not one beyond. */
    private static void seenAtItsReach() {
        for (int reach : new int[] {0, 1, 178, 179}) {
            Satellitering x = new Satellitering();
            x.addRelay(reach, 0, reach, 1);
            x.addRelay(Math.floorMod(-reach, 360), 0, reach, 1);
            serves(x, x.addStation(0), 0, 0);
            Satellitering y = new Satellitering();
            y.addRelay(reach + 1, 0, reach, 1);
            y.addRelay(Math.floorMod(-reach - 1, 360), 0, reach, 1);
            serves(y, y.addStation(0), -1, 0);
        }
    }

    /** "If its relay is seen now, it keeps it": though another is seen longer and has a lower number. */
    private static void keepsWhatIsSeen() {
        Satellitering x = new Satellitering();
        // seen from 5 to 105, and from 0 to 20
        x.addRelay(305, 1, 50, 1);
        x.addRelay(350, 1, 10, 1);
        x.addStation(0);
        serves(x, 2, 1, 0);
        for (int minute = 1; minute <= 20; minute++) {
            x.pass(1);
            serves(x, 2, 1, 0);
        }
        x.pass(1);
        serves(x, 2, 0, 1);
        passTo(x, 105);
        serves(x, 2, 0, 1);
    }

    /** "[..] the one that will be seen longest": from now on, not as a whole, and whatever its number. */
    private static void takesTheOneSeenLongest() {
        for (int longest = 0; longest < 3; longest++) {
            Satellitering x = new Satellitering();
            for (int i = 0; i < 3; i++) {
                x.addRelay(340, 1, i == longest ? 21 : 20, 1);
            }
            serves(x, x.addStation(0), longest, 0);
        }
        Satellitering y = new Satellitering();
        // a contact of 101 minutes, of which 10 are left, and one of 11
        y.addRelay(41, 1, 50, 1);
        y.addRelay(355, 1, 5, 1);
        Checks.due("view of the whole contact", 101, y.view(y.addStation(0), 0, 269));
        Checks.due("view of what is left", 10, y.view(2, 0, 0));
        serves(y, 2, 1, 0);
    }

    /** "(the most minutes from now on, this one counted [..])": what is seen at this minute alone is taken, too. */
    private static void thisMinuteCounted() {
        Satellitering x = new Satellitering();
        x.addRelay(20, 1, 20, 1);
        Checks.due("view of the last minute", 1, x.view(x.addStation(0), 0, 0));
        serves(x, 1, 0, 0);
        x.pass(1);
        serves(x, 1, -1, 0);
    }

    /** "[..] until it is not seen, at most 360": 359 are fewer than always, and always is the same for all. */
    private static void atMost360() {
        Satellitering x = new Satellitering();
        x.addRelay(181, 1, 179, 1);
        x.addRelay(179, 0, 179, 1);
        x.addRelay(0, 0, 0, 1);
        x.addStation(0);
        Checks.due("view(3, 0, 0)", 359, x.view(3, 0, 0));
        Checks.due("view(3, 1, 0)", 360, x.view(3, 1, 0));
        Checks.due("view(3, 2, 0)", 360, x.view(3, 2, 0));
        serves(x, 3, 1, 0);
        passTo(x, 361);
        serves(x, 3, 1, 0);
    }

    /** "[..] of several the one with the lowest number": also when they come from either side. */
    private static void ofSeveralTheLowestNumber() {
        Satellitering x = new Satellitering();
        x.addRelay(0, 3, 0, 1);
        x.addStation(100);
        x.addRelay(110, 1, 20, 1);
        x.addRelay(90, -1, 20, 1);
        x.addRelay(110, 1, 20, 1);
        serves(x, x.addStation(100), 2, 0);
        x.pass(1);
        serves(x, 1, 2, 0);
        Satellitering y = new Satellitering();
        for (int i = 0; i < 6; i++) {
            y.addRelay(60 * i, 0, 179, 1);
        }
        // the one at 180 does not see it, all others always do
        serves(y, y.addStation(0), 0, 0);
        serves(y, y.addStation(180), 1, 0);
    }

    /** "[..] that is a handover, unless it had none before": the first relay, and one after a gap. */
    private static void noHandoverIfItHadNone() {
        Satellitering x = new Satellitering();
        x.addStation(2);
        x.addRelay(0, 1, 0, 1);
        x.addRelay(358, 1, 0, 1);
        // seen at 2 and at 4, and none between
        passTo(x, 1);
        serves(x, 0, -1, 0);
        passTo(x, 2);
        serves(x, 0, 1, 0);
        passTo(x, 3);
        serves(x, 0, -1, 0);
        passTo(x, 4);
        serves(x, 0, 2, 0);
        passTo(x, 362);
        serves(x, 0, 1, 0);
    }

    /** The same without a gap is a handover. */
    private static void aHandoverWithoutAGap() {
        Satellitering x = new Satellitering();
        x.addStation(2);
        x.addRelay(0, 1, 0, 1);
        x.addRelay(359, 1, 0, 1);
        passTo(x, 2);
        serves(x, 0, 1, 0);
        passTo(x, 3);
        serves(x, 0, 2, 1);
        passTo(x, 4);
        serves(x, 0, -1, 1);
        passTo(x, 363);
        serves(x, 0, 2, 2);
    }

    /** "If none is seen, it has no relay.": however long; the handovers that it had stay. */
    private static void noneIfNoneIsSeen() {
        Satellitering x = new Satellitering();
        x.addStation(0);
        x.addStation(0);
        x.addRelay(100, 0, 99, 1);
        passTo(x, 400);
        serves(x, 0, -1, 0);
        Satellitering y = oneByOne();
        passTo(y, 5);
        serves(y, 6, 5, 5);
        for (int minute = 6; minute < 360; minute++) {
            y.pass(1);
            serves(y, 6, -1, 5);
        }
        y.pass(1);
        serves(y, 6, 0, 5);
    }

    /** "[..] whenever a minute has passed [..] seen now": now is the minute that begins then. */
    private static void itLooksAtTheMinuteThatBegins() {
        Satellitering x = new Satellitering();
        x.addStation(1);
        x.addStation(0);
        x.addRelay(0, 1, 0, 1);
        x.pass(1);
        serves(x, 0, 2, 0);
        serves(x, 1, -1, 0);
    }

    /** Promise 25, "how many handovers": two a round, if two relays are seen in turn, and none with a gap between. */
    private static void anyNumberOfHandovers() {
        // of each 12 minutes the first relay is seen from 9 to 3, the second from 4 to 8
        Satellitering x = new Satellitering();
        x.addRelay(0, 30, 90, 1);
        x.addRelay(180, 30, 89, 1);
        x.addStation(0);
        for (int minute = 0; minute <= 360; minute++) {
            int phase = minute % 12;
            boolean second = 4 <= phase && phase <= 8;
            int inThisRound = phase < 4 ? 0 : second ? 1 : 2;
            serves(x, 2, second ? 1 : 0, 2 * (minute / 12) + inThisRound);
            x.pass(1);
        }
        // of each 12 minutes the first relay is seen from 10 to 2, the second from 4 to 8, and none at 3 and 9
        Satellitering y = new Satellitering();
        y.addRelay(0, 30, 75, 1);
        y.addRelay(180, 30, 75, 1);
        y.addStation(0);
        for (int minute = 0; minute <= 360; minute++) {
            int phase = minute % 12;
            serves(y, 2, phase == 3 || phase == 9 ? -1 : 4 <= phase && phase <= 8 ? 1 : 0, 0);
            y.pass(1);
        }
    }
}
