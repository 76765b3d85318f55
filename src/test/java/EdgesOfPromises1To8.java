/** The boundaries that the promises 1 to 8 name: the loop and its stations. */
final class EdgesOfPromises1To8 {
    private static final int[] FAR = {Integer.MIN_VALUE, -1000, 1000, Integer.MAX_VALUE};
    private static final String NEW = "Creates a sorter with a loop of 12 trays, without chutes and parcels, at the "
            + "tick 0; the limit of rounds is 2.";

    private EdgesOfPromises1To8() {
    }

    static void test() {
        newLoop();
        newCounts();
        newLimit();
        newObjectsShareNothing();
        loopOutOfRange();
        loopWithChutes();
        loopWithParcels();
        loopBefore();
        loopAfterTicks();
        chutePositions();
        chuteCapacities();
        chuteWhereOneIs();
        seventhChute();
        addedChuteIsEmpty();
        capacityOfNoChute();
        capacityOutOfRange();
        capacityOfFullerChute();
        capacityBefore();
        limits();
        limitBefore();
        jamOfNoStation();
        jamOfJammed();
        jamCounts();
        freeOfNoStation();
        freeOfFree();
        freeCounts();
        noSuchPosition();
        whatIsAtPositions();
    }

    private static void newLoop() {
        Run x = Run.ofPromise(1, NEW).illegal("stationAt", -1)
                .dueEach("stationAt", 'i', '-', '-', '-', '-', '-', '-', '-', '-', '-', '-', 'o')
                .illegal("stationAt", 12).illegal("trayAt", -1).illegal("trayAt", 12);
        for (int position = 0; position < 12; position++) {
            x.noSuch("trayAt", position);
        }
        x.due(1, "jam", 0).due(2, "jam", 11).due(12, "setLoop", 12);
    }

    private static void newCounts() {
        Run x = Run.ofPromise(1, NEW).due(0L, "tick").due(0, "waiting").due(0, "onLoop").due(0, "overflowed")
                .due(0, "trucks").due(0L, "shipped").due(true, "isOnce").outOfBounds("inChute", 0)
                .noSuch("stateOf", 0).outOfBounds("sealOfTruck", 0)
                .dueEach("load", 0, 0, 0, 0, 0, 0, 0, 0);
        for (int route = 0; route < 8; route++) {
            x.noSuch("chuteFor", route);
        }
    }

    private static void newLimit() {
        Run.ofPromise(1, NEW).due(2, "setLimit", 2).make("arrive", 0, 1).due(0, "pass", 12).due(11, "positionOf", 0)
                .due(0, "pass", 12).due(11, "positionOf", 0).due(1, "roundsOf", 0)
                .due(0, "pass", 11).due(1, "pass", 1).due(2, "roundsOf", 0);
    }

    private static void newObjectsShareNothing() {
        CrossdockSorter used = new CrossdockSorter();
        used.addChute(1, 1);
        used.assign(0, 0);
        used.arrive(0, 1);
        used.setLimit(9);
        used.jam(0);
        used.pass(5);
        newLoop();
        newCounts();
        newLimit();
    }

    private static void loopOutOfRange() {
        String sentence = "Throws `IllegalArgumentException` if the number is out of range";
        Run x = Run.ofPromise(2, sentence);
        for (int trays : new int[] {3, 21, 2, 1, 0, -1, -4, 22}) {
            x.illegal("setLoop", trays);
        }
        for (int trays : FAR) {
            x.illegal("setLoop", trays);
        }
        x.due(12, "setLoop", 4).illegal("setLoop", 3).due(4, "setLoop", 20).illegal("setLoop", 21)
                .due(20, "setLoop", 5).due(5, "setLoop", 19).due(19, "setLoop", 12);
    }

    private static void loopWithChutes() {
        String sentence = "Throws `IllegalStateException` if there are chutes, or parcels have arrived";
        Run.ofPromise(2, sentence).due(12, "setLoop", 12).make("addChute", 1, 1).illegalState("setLoop", 12)
                .illegalState("setLoop", 4).illegalState("setLoop", 20).due('o', "stationAt", 11);
    }

    private static void loopWithParcels() {
        String sentence = "Throws `IllegalStateException` if there are chutes, or parcels have arrived";
        Run.ofPromise(2, sentence).make("setLoop", 4).make("setLimit", 1)
                .make("arrive", 0, 1).due('w', "stateOf", 0).illegalState("setLoop", 4).illegalState("setLoop", 5)
                .make("pass", 7).due('l', "stateOf", 0).illegalState("setLoop", 5)
                .make("pass", 1).due('o', "stateOf", 0).illegalState("setLoop", 5)
                .make("pass", 200).illegalState("setLoop", 5);
    }

    private static void loopBefore() {
        Run x = Run.ofPromise(2, "Returns the number of trays before.").due(12, "setLoop", 4);
        for (int trays = 5; trays <= 20; trays++) {
            x.due(trays - 1, "setLoop", trays).due(trays, "setLoop", trays);
        }
        x.make("setLimit", 5).make("pass", 3).due(20, "setLoop", 4).due(5, "setLimit", 5).due(3L, "tick");
    }

    // The loop has moved before it gets fewer or more trays; then a parcel goes round by each position of the new one.
    private static void loopAfterTicks() {
        for (int trays : new int[] {4, 5, 11, 13, 20}) {
            for (int ticks : new int[] {1, 2, 3, 7, 11, 12}) {
                Run x = Run.ofPromise(2, "Makes a loop with a number of trays.").make("pass", ticks)
                        .make("setLoop", trays).make("jam", trays - 1).make("arrive", 0, 1);
                for (int i = 0; i <= 2 * trays; i++) {
                    x.due(0, "pass", 1).due(i % trays, "positionOf", 0).due(0, "trayAt", i % trays);
                }
                x.due(2, "roundsOf", 0).due(1, "onLoop");
            }
        }
    }

    private static void chutePositions() {
        String sentence = "if the position is less than 1 or not less than the last one";
        for (int trays : new int[] {4, 12, 20}) {
            Run x = Run.ofPromise(3, sentence).make("setLoop", trays);
            for (int position : new int[] {0, -1, trays - 1, trays, trays + 1}) {
                x.illegal("addChute", position, 1);
            }
            for (int position : FAR) {
                x.illegal("addChute", position, 1);
            }
            x.due(0, "addChute", 1, 1).due(1, "addChute", trays - 2, 1);
            x.due('i', "stationAt", 0).due('c', "stationAt", 1).due('c', "stationAt", trays - 2)
                    .due('o', "stationAt", trays - 1);
        }
    }

    private static void chuteCapacities() {
        for (String part : new String[] {"- `capacity`: its capacity, 1 to 30", "the capacity is out of range"}) {
            Run x = Run.ofPromise(3, part);
            for (int capacity : new int[] {0, 31, -1, 32}) {
                x.illegal("addChute", 3, capacity);
            }
            for (int capacity : FAR) {
                x.illegal("addChute", 3, capacity);
            }
            x.due('-', "stationAt", 3).due(0, "addChute", 3, 1).due(1, "addChute", 4, 30)
                    .due(1, "setCapacity", 0, 2).due(30, "setCapacity", 1, 2);
        }
    }

    private static void chuteWhereOneIs() {
        Run.ofPromise(3, "Throws `UnsupportedOperationException` if there is a chute at this position")
                .make("addChute", 5, 3).unsupported("addChute", 5, 3).unsupported("addChute", 5, 4)
                .due(1, "addChute", 4, 3).due(2, "addChute", 6, 3).unsupported("addChute", 4, 1)
                .unsupported("addChute", 6, 1).unsupported("addChute", 5, 30).illegal("addChute", 5, 31)
                .due(3, "addChute", 7, 3);
    }

    private static void seventhChute() {
        Run x = Run.ofPromise(3, "Throws `IllegalStateException` if there are 6 chutes");
        for (int i = 0; i < 6; i++) {
            x.due(i, "addChute", 10 - i, 30 - i);
        }
        x.illegalState("addChute", 1, 1).illegalState("addChute", 4, 30).unsupported("addChute", 5, 1)
                .illegal("addChute", 11, 1).illegal("addChute", 4, 0).due('-', "stationAt", 4)
                .outOfBounds("inChute", 6).due(25, "setCapacity", 5, 1);
    }

    private static void addedChuteIsEmpty() {
        Run x = Run.ofPromise(3, "Adds an empty chute.").make("setLoop", 9).make("arrive", 0, 1).make("pass", 4);
        for (int i = 0; i < 6; i++) {
            x.make("addChute", i + 1, 1).due(0, "inChute", i).due(0, "seal", i).due(0, "sealByParcels", i)
                    .illegalState("free", i + 1).illegalState("dispatch", i).make("jam", i + 1);
        }
        x.due('l', "stateOf", 0).due(3, "positionOf", 0).due(0, "trayAt", 3);
    }

    private static void capacityOfNoChute() {
        Run x = Run.ofPromise(4, "Throws `IndexOutOfBoundsException` if there is no such chute")
                .outOfBounds("setCapacity", 0, 1);
        for (int i = 0; i < 6; i++) {
            x.make("addChute", i + 1, 3).outOfBounds("setCapacity", -1, 1).outOfBounds("setCapacity", i + 1, 1)
                    .due(3, "setCapacity", i, 4);
        }
        for (int chute : FAR) {
            x.outOfBounds("setCapacity", chute, 1).outOfBounds("setCapacity", chute, 0);
        }
        x.outOfBounds("setCapacity", 6, 31);
    }

    private static void capacityOutOfRange() {
        for (String part : new String[] {"- `capacity`: the capacity, 1 to 30",
            "Throws `IllegalArgumentException` if the capacity is out of range"}) {
            Run x = Run.ofPromise(4, part).make("addChute", 1, 7);
            for (int capacity : new int[] {0, 31, -1, 32}) {
                x.illegal("setCapacity", 0, capacity);
            }
            for (int capacity : FAR) {
                x.illegal("setCapacity", 0, capacity);
            }
            x.due(7, "setCapacity", 0, 1).due(1, "setCapacity", 0, 30).due(30, "setCapacity", 0, 30);
        }
    }

    private static void capacityOfFullerChute() {
        String sentence = "Throws `IllegalStateException` if the chute has more parcels";
        Run.ofPromise(4, sentence).make("setLoop", 4).make("addChute", 1, 5).make("assign", 0, 0)
                .times(5, "arrive", 0, 1).due(3, "pass", 4).illegalState("setCapacity", 0, 2)
                .illegalState("setCapacity", 0, 1).due(5, "setCapacity", 0, 3)
                .due(0, "pass", 1).due(1, "positionOf", 3).due(3, "inChute", 0);
        Run.ofPromise(4, sentence).make("setLoop", 4).make("addChute", 1, 30).make("assign", 0, 0)
                .times(30, "arrive", 0, 1).due(30, "pass", 31).illegalState("setCapacity", 0, 29)
                .due(30, "setCapacity", 0, 30).make("dispatch", 0).due(30, "setCapacity", 0, 1)
                .make("arrive", 0, 1).due(1, "pass", 2).due(1, "setCapacity", 0, 1);
    }

    // A full chute takes no parcel; with room for one more it takes one.
    private static void capacityBefore() {
        Run.ofPromise(4, "Returns the capacity before.").make("setLoop", 4).make("addChute", 1, 1)
                .make("addChute", 2, 9).make("assign", 0, 0).times(3, "arrive", 0, 1)
                .due(1, "pass", 3).due(1, "setCapacity", 0, 2).due(1, "pass", 1).due(0, "pass", 3)
                .due(2, "inChute", 0).due(2, "setCapacity", 0, 2).due(9, "setCapacity", 1, 9);
    }

    private static void limits() {
        for (String part : new String[] {"- `rounds`: the limit, 1 to 9",
            "Throws `IllegalArgumentException` if the limit is out of range"}) {
            Run x = Run.ofPromise(5, part);
            for (int limit : new int[] {0, 10, -1, 11}) {
                x.illegal("setLimit", limit);
            }
            for (int limit : FAR) {
                x.illegal("setLimit", limit);
            }
            x.due(2, "setLimit", 1).illegal("setLimit", 0).due(1, "setLimit", 9).illegal("setLimit", 10)
                    .due(9, "setLimit", 9);
        }
    }

    private static void limitBefore() {
        Run x = Run.ofPromise(5, "Returns the limit before.").due(2, "setLimit", 1);
        for (int limit = 2; limit <= 9; limit++) {
            x.due(limit - 1, "setLimit", limit).due(limit, "setLimit", limit);
        }
        x.make("setLoop", 4).make("arrive", 0, 1).due(0, "pass", 39).due(1, "pass", 1).due(9, "roundsOf", 0)
                .due(9, "setLimit", 1).make("arrive", 0, 1).due(0, "pass", 7).due(1, "pass", 1).due(1, "roundsOf", 1);
    }

    private static Run noStations(int promise, String name) {
        Run x = Run.ofPromise(promise, "Throws `NoSuchElementException` if there is no station at this position")
                .make("setLoop", 5).make("addChute", 2, 1);
        for (int position : new int[] {-1, 1, 3, 5, 6, 11, 12}) {
            x.noSuch(name, position);
        }
        for (int position : FAR) {
            x.noSuch(name, position);
        }
        return x;
    }

    private static void jamOfNoStation() {
        noStations(6, "jam").due(1, "jam", 0).due(2, "jam", 2).due(3, "jam", 4).make("addChute", 1, 1)
                .due(4, "jam", 1).noSuch("jam", 3);
    }

    private static void jamOfJammed() {
        Run.ofPromise(6, "Throws `IllegalStateException` if it is jammed").make("setLoop", 5).make("addChute", 2, 1)
                .make("jam", 0).illegalState("jam", 0).make("jam", 2).illegalState("jam", 2)
                .make("jam", 4).illegalState("jam", 4).make("free", 2).due(3, "jam", 2).illegalState("jam", 2);
    }

    private static void jamCounts() {
        Run x = Run.ofPromise(6, "Returns the number of stations that are jammed after the call.");
        for (int i = 0; i < 6; i++) {
            x.make("addChute", i + 1, 1);
        }
        for (int i = 0; i < 7; i++) {
            x.due(i + 1, "jam", 6 - i);
        }
        x.due(8, "jam", 11);
        x.make("free", 3).due(8, "jam", 3);
        Run.ofPromise(6, "Returns the number of stations that are jammed after the call.").due(1, "jam", 11)
                .make("free", 11).due(1, "jam", 0);
    }

    private static void freeOfNoStation() {
        noStations(7, "free").make("jam", 0).make("jam", 2).make("jam", 4).noSuch("free", 1).noSuch("free", 3)
                .noSuch("free", 5).due(2, "free", 0).due(1, "free", 2).due(0, "free", 4);
    }

    private static void freeOfFree() {
        Run.ofPromise(7, "Throws `IllegalStateException` if it is not jammed").make("setLoop", 5)
                .make("addChute", 2, 1).illegalState("free", 0).illegalState("free", 2).illegalState("free", 4)
                .make("jam", 0).illegalState("free", 2).illegalState("free", 4)
                .make("jam", 2).make("free", 0).illegalState("free", 0).illegalState("free", 4)
                .make("jam", 4).make("free", 2).illegalState("free", 0).illegalState("free", 2).due(0, "free", 4)
                .illegalState("free", 4);
    }

    private static void freeCounts() {
        Run x = Run.ofPromise(7, "Returns the number of stations that are still jammed.").make("jam", 0)
                .make("jam", 11);
        for (int i = 0; i < 6; i++) {
            x.make("addChute", 10 - i, 1).make("jam", 10 - i);
        }
        x.due(7, "free", 11).due(6, "free", 0);
        for (int i = 0; i < 6; i++) {
            x.due(5 - i, "free", 10 - i);
        }
        x.due(1, "jam", 0).due(0, "free", 0);
    }

    private static void noSuchPosition() {
        for (int trays : new int[] {4, 12, 20}) {
            Run x = Run.ofPromise(8, "Throws `IllegalArgumentException` if there is no such position")
                    .make("setLoop", trays);
            for (int position : new int[] {-1, trays, trays + 1}) {
                x.illegal("stationAt", position);
            }
            for (int position : FAR) {
                x.illegal("stationAt", position);
            }
            x.due('i', "stationAt", 0).due('o', "stationAt", trays - 1);
        }
    }

    private static void whatIsAtPositions() {
        Run.ofPromise(8, "Returns 'i' for the loader, 'c' for a chute, 'o' for the overflow, '-' for nothing.")
                .make("setLoop", 8).make("addChute", 1, 1).make("addChute", 6, 1).make("addChute", 3, 1)
                .dueEach("stationAt", 'i', 'c', '-', 'c', '-', '-', 'c', 'o')
                .make("jam", 0).make("jam", 3).make("jam", 7).make("arrive", 0, 1).make("pass", 9)
                .dueEach("stationAt", 'i', 'c', '-', 'c', '-', '-', 'c', 'o').changesNothing("stationAt", 2);
    }
}
