/** The boundaries that the promises 9 to 18 name: parcels and ticks. */
final class EdgesOfPromises9To18 {
    private static final int[] FAR = {Integer.MIN_VALUE, -1000, 1000, Integer.MAX_VALUE};
    private static final String NO_PARCEL = "Throws `NoSuchElementException` if there is no such parcel";

    private EdgesOfPromises9To18() {
    }

    static void test() {
        arrivalsOutOfRange();
        fullArrivals();
        fullArrivalsThatLeft();
        lastOfQueue();
        numbersOfParcels();
        ticksOutOfRange();
        leavingAtOneTick();
        leavingAtEdgesOfTicks();
        tickCounts();
        noSuchParcel("stateOf", 12);
        statesOfFirstAndLast();
        noSuchParcel("positionOf", 13);
        positionOffLoop();
        positionsRoundTheLoop();
        noSuchParcel("roundsOf", 14);
        roundsOfWaiting();
        lastRounds();
        trayOfNoPosition();
        emptyTrays();
        waitingCounts();
        onLoopCounts();
        overflowCounts();
    }

    // A loop of four trays with a chute for one parcel of the route 0 at the position 1, and the limit 1: a parcel that
    // does not drop is in the overflow seven ticks after it was loaded.
    private static Run small(int promise, String sentence) {
        return Run.ofPromise(promise, sentence).make("setLoop", 4).make("setLimit", 1).make("addChute", 1, 1)
                .make("assign", 0, 0);
    }

    private static void arrivalsOutOfRange() {
        for (String part : new String[] {"- `route`: the route, 0 to 7",
            "Throws `IllegalArgumentException` if the route or the weight is out of range"}) {
            Run x = Run.ofPromise(9, part);
            for (int wrong : new int[] {-1, 8, 9}) {
                x.illegal("arrive", wrong, 1);
            }
            for (int wrong : new int[] {-1, 0, 10, 11}) {
                x.illegal("arrive", 0, wrong);
            }
            for (int far : FAR) {
                x.illegal("arrive", far, 1).illegal("arrive", 0, far).illegal("arrive", far, far);
            }
            x.due(0, "waiting").due(0, "arrive", 0, 1).due(1, "arrive", 7, 9).due(2, "arrive", 0, 9)
                    .due(3, "arrive", 7, 1).illegal("arrive", 8, 9).illegal("arrive", 7, 10).due(4, "waiting")
                    .due(10, "load", 0).due(10, "load", 7);
        }
    }

    private static void fullArrivals() {
        Run.ofPromise(9, "Throws `IllegalStateException` if 300 parcels have arrived").times(299, "arrive", 1, 1)
                .due(299, "arrive", 7, 9).illegalState("arrive", 0, 1).illegalState("arrive", 7, 9)
                .illegal("arrive", 8, 1).illegal("arrive", 0, 0).due(300, "waiting").due(9, "load", 7);
    }

    // The last of four trays gets rid of its 75th parcel at the tick 603.
    private static void fullArrivalsThatLeft() {
        Run.ofPromise(9, "Throws `IllegalStateException` if 300 parcels have arrived").make("setLoop", 4)
                .make("setLimit", 1).times(300, "arrive", 1, 1).make("pass", 200).make("pass", 200).make("pass", 200)
                .due(297, "overflowed").due(3, "pass", 3).due(300, "overflowed").due(0, "waiting").due(0, "onLoop")
                .illegalState("arrive", 0, 1).due('o', "stateOf", 299).noSuch("stateOf", 300);
    }

    private static void lastOfQueue() {
        Run x = Run.ofPromise(9, "Lets a parcel arrive; it is the last one of the queue.").make("jam", 11)
                .make("arrive", 0, 9).make("arrive", 7, 1).make("pass", 1).due(0, "trayAt", 0)
                .make("arrive", 0, 1).make("pass", 1).due(1, "trayAt", 0).make("pass", 1).due(2, "trayAt", 0)
                .make("pass", 1).noSuch("trayAt", 0).make("arrive", 0, 1).noSuch("trayAt", 0).due('w', "stateOf", 3)
                .make("pass", 1).due(3, "trayAt", 0);
        x.due(0, "waiting").due(4, "onLoop");
    }

    private static void numbersOfParcels() {
        Run.ofPromise(9, "Returns the number of the parcel.").due(0, "arrive", 3, 1).illegal("arrive", 8, 1)
                .due(1, "arrive", 3, 1).make("pass", 200).due(2, "overflowed").due(2, "arrive", 0, 1);
    }

    private static void ticksOutOfRange() {
        for (String part : new String[] {"- `ticks`: the number of ticks, 1 to 200",
            "Throws `IllegalArgumentException` if the number is out of range"}) {
            Run x = Run.ofPromise(10, part).make("arrive", 0, 1);
            for (int ticks : new int[] {0, 201, -1, 202}) {
                x.illegal("pass", ticks);
            }
            for (int ticks : FAR) {
                x.illegal("pass", ticks);
            }
            x.due(0L, "tick").due(0, "pass", 1).due(1L, "tick").illegal("pass", 0).due(1, "pass", 200)
                    .due(201L, "tick").illegal("pass", 201);
        }
    }

    // At the tick 33 the parcels 7 to 2 are at the chutes of their routes, the parcel 1 at the overflow with 3 rounds.
    private static void leavingAtOneTick() {
        Run x = Run.ofPromise(10, "Returns the number of parcels that leave the loop.").make("setLoop", 8);
        for (int i = 0; i < 6; i++) {
            x.make("addChute", i + 1, 1).make("assign", i, i).make("jam", i + 1);
        }
        x.make("jam", 7).make("arrive", 7, 1).make("arrive", 7, 1);
        for (int route = 5; route >= 0; route--) {
            x.make("arrive", route, 1);
        }
        x.due(0, "pass", 32).due(8, "onLoop");
        for (int position = 1; position < 8; position++) {
            x.make("free", position);
        }
        x.due(7, "leavingAhead", 1).due(7, "leavingByTrays", 1).due(7, "pass", 1).due(1, "onLoop")
                .due(0, "positionOf", 0).due(1, "overflowed").dueEach("inChute", 1, 1, 1, 1, 1, 1).due(0, "pass", 6)
                .due(1, "pass", 1).due(0, "onLoop");
    }

    // With the limit 9 and 20 trays, a parcel is at the overflow with 9 rounds at the tick 1 + 9 * 20 + 19.
    private static void leavingAtEdgesOfTicks() {
        String sentence = "Returns the number of parcels that leave the loop.";
        Run.ofPromise(10, sentence).make("setLoop", 20).make("setLimit", 9).make("arrive", 0, 1)
                .due(1, "pass", 200).due('o', "stateOf", 0).due(0, "pass", 200);
        Run.ofPromise(10, sentence).make("setLoop", 20).make("setLimit", 9).make("arrive", 0, 1)
                .due(0, "pass", 199).due('l', "stateOf", 0).due(1, "pass", 1);
        Run.ofPromise(10, sentence).due(0, "pass", 1).due(0, "pass", 200);
        small(10, sentence).times(3, "arrive", 0, 1).due(3, "pass", 200);
    }

    private static void tickCounts() {
        Run.ofPromise(11, "Returns the number of ticks that have passed.").due(0L, "tick")
                .make("pass", 1).due(1L, "tick").make("pass", 200).due(201L, "tick")
                .illegal("pass", 0).illegal("pass", 201).due(201L, "tick")
                .changesNothing("leavingAhead", 200).changesNothing("leavingByTrays", 200).changesNothing("isOnce")
                .make("arrive", 0, 1).make("addChute", 1, 1).make("startWave").due(201L, "tick")
                .make("pass", 2).make("dispatch", 0).due(203L, "tick");
        Run.ofPromise(11, "Returns the number of ticks that have passed.").make("pass", 5).make("setLoop", 20)
                .due(5L, "tick");
    }

    private static void noSuchParcel(String name, int promise) {
        Run x = Run.ofPromise(promise, NO_PARCEL).noSuch(name, -1).noSuch(name, 0).noSuch(name, 1);
        x.make("arrive", 0, 1).noSuch(name, -1).noSuch(name, 1).make("arrive", 0, 1).make("pass", 2).noSuch(name, 2);
        for (int parcel : FAR) {
            x.noSuch(name, parcel);
        }
        Run full = Run.ofPromise(promise, NO_PARCEL).times(300, "arrive", 0, 1).make("pass", 1);
        full.noSuch(name, -1).noSuch(name, 300).noSuch(name, 301);
        Object first = name.equals("stateOf") ? (Object) 'l' : (Object) 0;
        full.due(first, name, 0);
    }

    private static void statesOfFirstAndLast() {
        small(12, "Returns 'w', 'l', 'c', 't' or 'o'.").make("jam", 0).times(3, "arrive", 0, 1)
                .make("pass", 200).dueEach("stateOf", 'w', 'w', 'w').make("free", 0)
                .make("pass", 1).dueEach("stateOf", 'l', 'w', 'w').make("pass", 1).dueEach("stateOf", 'c', 'l', 'w')
                .make("pass", 1).make("dispatch", 0).dueEach("stateOf", 't', 'l', 'l')
                .make("pass", 1).dueEach("stateOf", 't', 'l', 'c')
                .make("pass", 4).dueEach("stateOf", 't', 'l', 'c').make("pass", 1).dueEach("stateOf", 't', 'o', 'c')
                .changesNothing("stateOf", 0);
        Run.ofPromise(12, "Returns 'w', 'l', 'c', 't' or 'o'.").times(300, "arrive", 0, 1).due('w', "stateOf", 0)
                .due('w', "stateOf", 299);
    }

    private static void positionOffLoop() {
        small(13, "Throws `IllegalStateException` if it is not on the loop").times(2, "arrive", 0, 1)
                .illegalState("positionOf", 0).illegalState("positionOf", 1)
                .make("pass", 1).due(0, "positionOf", 0).illegalState("positionOf", 1)
                .make("pass", 1).illegalState("positionOf", 0).due(0, "positionOf", 1)
                .make("dispatch", 0).illegalState("positionOf", 0)
                .make("jam", 1).make("pass", 6).due(2, "positionOf", 1)
                .make("pass", 1).illegalState("positionOf", 1);
    }

    private static void positionsRoundTheLoop() {
        for (int trays : new int[] {4, 12, 20}) {
            Run x = Run.ofPromise(13, "Returns the position of a parcel on the loop.").make("setLoop", trays)
                    .make("jam", trays - 1).make("arrive", 0, 1);
            for (int i = 0; i <= 3 * trays; i++) {
                x.make("pass", 1).due(i % trays, "positionOf", 0);
            }
            x.make("pass", 200).due((3 * trays + 200) % trays, "positionOf", 0);
        }
    }

    private static void roundsOfWaiting() {
        Run.ofPromise(14, "Throws `IllegalStateException` if it waits").make("jam", 0).make("arrive", 0, 1)
                .illegalState("roundsOf", 0).make("pass", 24).illegalState("roundsOf", 0).make("free", 0)
                .illegalState("roundsOf", 0).make("pass", 1).due(0, "roundsOf", 0).make("arrive", 0, 1)
                .illegalState("roundsOf", 1);
    }

    // The tray of a parcel that has left goes round further, and takes others.
    private static void lastRounds() {
        String sentence = "Returns the rounds; those that it had at last, if it has left the loop.";
        small(14, sentence).times(2, "arrive", 0, 1).make("pass", 2).due('c', "stateOf", 0).due(0, "roundsOf", 0)
                .make("pass", 6).due(0, "roundsOf", 0).due(1, "roundsOf", 1)
                .make("pass", 1).due('o', "stateOf", 1).due(1, "roundsOf", 1)
                .make("dispatch", 0).due(0, "roundsOf", 0).times(2, "arrive", 7, 1)
                .make("pass", 200).dueEach("roundsOf", 0, 1, 1, 1);
        small(14, sentence).make("setLimit", 9).make("jam", 1).make("arrive", 0, 1).make("pass", 37)
                .due(0, "positionOf", 0).due(9, "roundsOf", 0).make("free", 1).due(1, "pass", 1).due(9, "roundsOf", 0)
                .make("dispatch", 0).make("pass", 200).due(9, "roundsOf", 0);
    }

    private static void trayOfNoPosition() {
        for (int trays : new int[] {4, 12, 20}) {
            Run x = Run.ofPromise(15, "Throws `IllegalArgumentException` if there is no such position")
                    .make("setLoop", trays).make("jam", trays - 1).times(trays, "arrive", 0, 1).make("pass", trays);
            for (int position : new int[] {-1, trays, trays + 1}) {
                x.illegal("trayAt", position);
            }
            for (int position : FAR) {
                x.illegal("trayAt", position);
            }
            x.due(trays - 1, "trayAt", 0).due(0, "trayAt", trays - 1);
        }
    }

    private static void emptyTrays() {
        small(15, "Throws `NoSuchElementException` if the tray is empty").noSuch("trayAt", 0).noSuch("trayAt", 3)
                .times(2, "arrive", 0, 1).noSuch("trayAt", 0).make("pass", 1).due(0, "trayAt", 0).noSuch("trayAt", 1)
                .noSuch("trayAt", 3).make("pass", 1).due(1, "trayAt", 0).noSuch("trayAt", 1)
                .make("pass", 3).due(1, "trayAt", 3).noSuch("trayAt", 0).make("pass", 1).due(1, "trayAt", 0)
                .noSuch("trayAt", 3).make("pass", 2).due(1, "trayAt", 2).make("pass", 1).noSuch("trayAt", 3);
    }

    private static void waitingCounts() {
        Run.ofPromise(16, "Returns the number of parcels that wait.").due(0, "waiting")
                .make("pass", 1).due(0, "waiting").make("arrive", 0, 1).due(1, "waiting")
                .make("pass", 1).due(0, "waiting").make("pass", 1).due(0, "waiting")
                .make("jam", 0).times(299, "arrive", 0, 1).due(299, "waiting").make("pass", 200).due(299, "waiting")
                .illegalState("arrive", 0, 1).make("free", 0).make("pass", 1).due(298, "waiting");
    }

    private static void onLoopCounts() {
        for (int trays : new int[] {4, 20}) {
            Run x = Run.ofPromise(17, "Returns the number of parcels on the loop.").make("setLoop", trays)
                    .make("jam", trays - 1).due(0, "onLoop").times(trays + 1, "arrive", 0, 1).due(0, "onLoop");
            for (int i = 1; i <= trays; i++) {
                x.make("pass", 1).due(i, "onLoop");
            }
            // After 2 * trays ticks the parcel 0 is at the last position again, with one round.
            x.make("pass", 1).due(trays, "onLoop").make("free", trays - 1).make("setLimit", 1)
                    .make("pass", trays - 2).due(trays, "onLoop").due(1, "pass", 1).due(trays - 1, "onLoop")
                    .due(1, "waiting").due(1, "pass", 1).due(trays - 1, "onLoop").due(0, "waiting");
        }
        small(17, "Returns the number of parcels on the loop.").make("arrive", 0, 1).make("pass", 1).due(1, "onLoop")
                .make("pass", 1).due(0, "onLoop").make("dispatch", 0).due(0, "onLoop");
    }

    private static void overflowCounts() {
        small(18, "Returns the number of parcels in the overflow.").due(0, "overflowed").make("arrive", 0, 1)
                .make("arrive", 0, 1).make("pass", 8).due(0, "overflowed").make("pass", 1).due(1, "overflowed")
                .make("dispatch", 0).make("pass", 200).due(1, "overflowed");
        Run.ofPromise(18, "Returns the number of parcels in the overflow.").make("setLoop", 4).make("setLimit", 1)
                .times(300, "arrive", 0, 1).make("pass", 200).due(97, "overflowed").make("pass", 200).make("pass", 200)
                .due(297, "overflowed").make("pass", 2).due(299, "overflowed").make("pass", 1).due(300, "overflowed")
                .make("pass", 200).due(300, "overflowed");
    }
}
