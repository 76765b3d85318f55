/** The boundaries that the paragraph "Ticks" names. */
final class EdgesOfTicks {
    private static final String NOT_JAMMED = "Then the stations that are not jammed serve the trays at their positions";
    private static final String LOADER = "the loader puts the first parcel of the queue on its tray, if the tray is "
            + "empty";
    private static final String CHUTE = "a chute takes the parcel from its tray if the route of the parcel is assigned "
            + "to this chute and it has fewer parcels than its capacity";
    private static final String OVERFLOW = "the overflow takes it if its rounds are at least the limit of rounds.";

    private EdgesOfTicks() {
    }

    static void test() {
        moveComesFirst();
        roundsOfOneParcel();
        noParcelNoRounds();
        jammedLoader();
        jammedChute();
        jammedOverflow();
        emptyQueue();
        fullTray();
        firstOfQueue();
        fullChute();
        otherRoutes();
        emptyTray();
        limitOfRounds();
        moreRoundsThanLimit();
        overflowTakesAnyRoute();
    }

    // Stations serve at the positions behind the move: a parcel is at the position 0 one tick long, then at 1.
    private static void moveComesFirst() {
        new Run("Ticks", "When a tick passes, the loop moves").make("setLoop", 4).make("addChute", 1, 1)
                .make("addChute", 2, 1).make("assign", 0, 0).make("assign", 1, 1)
                .make("arrive", 0, 1).make("arrive", 1, 1)
                .due(0, "pass", 1).due(0, "positionOf", 0)
                .due(1, "pass", 1).due('c', "stateOf", 0).due(0, "positionOf", 1)
                .due(0, "pass", 1).due(1, "positionOf", 1)
                .due(1, "pass", 1).due('c', "stateOf", 1);
        // A chute that is added at the position of a parcel takes it when it comes again.
        new Run("Ticks", "When a tick passes, the loop moves").make("arrive", 0, 1).make("pass", 4)
                .due(3, "positionOf", 0).make("addChute", 3, 1).make("assign", 0, 0).due('l', "stateOf", 0)
                .due(0, "pass", 11).due('l', "stateOf", 0).due(1, "pass", 1).due('c', "stateOf", 0)
                .due(1, "roundsOf", 0);
    }

    private static void roundsOfOneParcel() {
        for (int trays : new int[] {4, 12, 20}) {
            Run x = new Run("Ticks", "the rounds of the parcel that comes from the last position to the position 0")
                    .make("setLoop", trays).make("jam", trays - 1).make("arrive", 0, 1).make("arrive", 0, 1);
            x.make("pass", trays).due(trays - 1, "positionOf", 0).dueEach("roundsOf", 0, 0);
            x.make("pass", 1).due(0, "positionOf", 0).dueEach("roundsOf", 1, 0);
            x.make("pass", 1).due(1, "positionOf", 0).dueEach("roundsOf", 1, 1);
            x.make("pass", trays - 2).due(trays - 1, "positionOf", 0).dueEach("roundsOf", 1, 1);
            x.make("pass", 1).dueEach("roundsOf", 2, 1);
        }
    }

    private static void noParcelNoRounds() {
        new Run("Ticks", "if there is one, increase by 1.").make("setLoop", 4).make("jam", 0).make("arrive", 0, 1)
                .make("pass", 200).make("free", 0).make("pass", 4).due(3, "positionOf", 0).due(0, "roundsOf", 0)
                .make("pass", 1).due(1, "roundsOf", 0);
    }

    private static void jammedLoader() {
        new Run("Ticks", NOT_JAMMED).make("arrive", 0, 1).make("jam", 0).make("pass", 1)
                .due('w', "stateOf", 0).due(0, "onLoop")
                .make("pass", 200).due('w', "stateOf", 0)
                .make("free", 0).due('w', "stateOf", 0).make("pass", 1).due(0, "positionOf", 0);
    }

    private static void jammedChute() {
        new Run("Ticks", NOT_JAMMED).make("setLoop", 4)
                .make("addChute", 1, 1).make("assign", 0, 0).make("arrive", 0, 1).make("jam", 1)
                .due(0, "pass", 2).due(1, "positionOf", 0).make("free", 1).due('l', "stateOf", 0)
                .due(0, "pass", 3).due(1, "pass", 1).due(1, "roundsOf", 0);
    }

    private static void jammedOverflow() {
        new Run("Ticks", NOT_JAMMED).make("setLoop", 4)
                .make("setLimit", 1).make("arrive", 0, 1).make("jam", 3)
                .due(0, "pass", 8).due(3, "positionOf", 0).make("free", 3).due('l', "stateOf", 0)
                .due(0, "pass", 3).due(1, "pass", 1).due(2, "roundsOf", 0);
    }

    private static void emptyQueue() {
        new Run("Ticks", LOADER).make("pass", 1).due(0, "onLoop").noSuch("trayAt", 0)
                .make("arrive", 0, 1).make("pass", 1).due(0, "trayAt", 0)
                .make("pass", 1).noSuch("trayAt", 0).due(0, "trayAt", 1).due(1, "onLoop").due(0, "waiting");
    }

    private static void fullTray() {
        for (int trays : new int[] {4, 20}) {
            new Run("Ticks", LOADER).make("setLoop", trays).make("jam", trays - 1).times(trays + 1, "arrive", 0, 1)
                    .make("pass", trays).due(1, "waiting").due(trays - 1, "trayAt", 0)
                    .make("pass", 1).due(1, "waiting").due(0, "trayAt", 0)
                    .make("pass", trays).due(1, "waiting").due(0, "trayAt", 0);
        }
        // The tray is empty as soon as the overflow has taken its parcel at the last position.
        new Run("Ticks", LOADER).make("setLoop", 4).make("setLimit", 1).times(5, "arrive", 0, 1)
                .due(0, "pass", 7).due(1, "waiting").due(1, "pass", 1).due(1, "waiting").make("pass", 1)
                .due(0, "waiting").due(4, "trayAt", 0);
    }

    private static void firstOfQueue() {
        Run x = new Run("Ticks", LOADER).make("arrive", 0, 1).make("arrive", 1, 1);
        x.make("pass", 1).due(0, "trayAt", 0).due(1, "waiting").make("arrive", 2, 1);
        x.make("pass", 1).due(1, "trayAt", 0).due(1, "waiting");
        x.make("pass", 1).due(2, "trayAt", 0).due(0, "waiting").make("pass", 1).due(3, "onLoop");
    }

    private static void fullChute() {
        for (int capacity : new int[] {1, 30}) {
            Run x = new Run("Ticks", CHUTE).make("setLoop", 4).make("addChute", 1, capacity).make("assign", 0, 0)
                    .times(capacity, "arrive", 0, 1).make("setLimit", 9);
            x.due(capacity - 1, "pass", capacity).due(capacity - 1, "inChute", 0);
            x.due(1, "pass", 1).due(capacity, "inChute", 0);
            x.make("arrive", 0, 1).due(0, "pass", 2).due(1, "positionOf", capacity).due(capacity, "inChute", 0);
            x.make("dispatch", 0).due(0, "pass", 3).due(1, "pass", 1).due(1, "inChute", 0);
        }
    }

    private static void otherRoutes() {
        new Run("Ticks", CHUTE).make("setLoop", 4).make("addChute", 1, 5).make("addChute", 2, 5)
                .make("assign", 7, 1).make("arrive", 0, 1).make("arrive", 7, 1)
                .make("pass", 3).due(2, "positionOf", 0).due(1, "positionOf", 1)
                .due(1, "pass", 1).due('c', "stateOf", 1).due(0, "inChute", 0).due(1, "inChute", 1)
                .due(3, "positionOf", 0);
        // What counts is the chute of the route at the tick, not that at the arrival.
        new Run("Ticks", CHUTE).make("setLoop", 4).make("addChute", 1, 5).make("addChute", 2, 5)
                .make("assign", 0, 0).make("arrive", 0, 1).make("pass", 1).make("assign", 0, 1)
                .due(0, "pass", 1).make("assign", 0, 0).due(0, "pass", 1).make("unassign", 0)
                .due(0, "pass", 3).make("assign", 0, 1).due(1, "pass", 1).due(1, "inChute", 1);
    }

    private static void emptyTray() {
        new Run("Ticks", CHUTE).make("setLoop", 4).make("setLimit", 1).make("addChute", 1, 5).make("addChute", 2, 5)
                .make("assign", 0, 0).due(0, "pass", 200).due(0, "inChute", 0).due(0, "inChute", 1)
                .due(0, "overflowed").due(0, "seal", 0);
    }

    // With the limit n, a parcel goes round n times: it is at the last position again after 4 * n + 4 ticks.
    private static void limitOfRounds() {
        for (int limit = 1; limit <= 9; limit++) {
            new Run("Ticks", OVERFLOW).make("setLoop", 4).make("setLimit", limit).make("arrive", 0, 1)
                    .due(0, "pass", 4 * limit).due(3, "positionOf", 0).due(limit - 1, "roundsOf", 0)
                    .due(0, "pass", 3).due(2, "positionOf", 0).due(limit, "roundsOf", 0)
                    .due(1, "pass", 1).due('o', "stateOf", 0).due(limit, "roundsOf", 0);
        }
    }

    private static void moreRoundsThanLimit() {
        new Run("Ticks", OVERFLOW).make("setLoop", 4).make("setLimit", 9).make("arrive", 0, 1)
                .due(0, "pass", 35).due(8, "roundsOf", 0).due(2, "positionOf", 0)
                .make("setLimit", 1).due(1, "pass", 1).due(8, "roundsOf", 0).due('o', "stateOf", 0);
        new Run("Ticks", OVERFLOW).make("setLoop", 4).make("arrive", 0, 1).due(0, "pass", 11)
                .make("setLimit", 3).due(0, "pass", 4).due(3, "roundsOf", 0).due(1, "pass", 1);
    }

    private static void overflowTakesAnyRoute() {
        new Run("Ticks", OVERFLOW).make("setLoop", 4).make("setLimit", 1).make("addChute", 1, 1).make("assign", 0, 0)
                .make("arrive", 0, 1).make("arrive", 0, 1).due(1, "pass", 8).dueEach("stateOf", 'c', 'l')
                .due(1, "pass", 1).dueEach("stateOf", 'c', 'o').due(1, "inChute", 0).due(1, "overflowed");
    }
}
