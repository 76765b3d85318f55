/** The boundaries that the paragraphs "Loop", "Stations", "Parcels", "Exceptions" and "Clarifications" name. */
final class EdgesOfTerms {
    private static final int[] SIZES = {4, 5, 12, 19, 20};

    private EdgesOfTerms() {
    }

    static void test() {
        lastCall();
        everyParcelLeavesOnce();
        trays();
        positions();
        emptyAndFullLoop();
        move();
        ends();
        chutes();
        chutesInSmallestLoop();
        capacity();
        jams();
        parcels();
        routesAndWeights();
        states();
        roundsBeginAnew();
        refusedCallsChangeNothing();
        firstException();
        jamsStay();
        waveEndsAssign();
        loadedInTheseTicks();
    }

    // 511 times 200 ticks; a parcel that no station takes comes to the position 0 after each 4 of them.
    private static void lastCall() {
        String sentence = "An object is used for at most 512 calls after it has been made";
        new Run("What it is", sentence).times(511, "pass", 200).due(102200L, "tick");
        new Run("What it is", sentence).make("setLoop", 4).make("jam", 3).make("arrive", 0, 1)
                .times(508, "pass", 200).due((508 * 200 - 1) / 4, "roundsOf", 0);
    }

    // Four parcels of the route 0 for a chute with room for two; the others come to the overflow.
    private static void everyParcelLeavesOnce() {
        Run x = new Run("Terms", "Every parcel leaves by its route once, or by the overflow.").make("setLoop", 4)
                .make("setLimit", 1).make("addChute", 1, 2).make("assign", 0, 0).times(4, "arrive", 0, 1);
        x.due(0, "pass", 1).due(1, "pass", 1).due(1, "pass", 1).due(0, "pass", 6).due(1, "pass", 1)
                .due(1, "pass", 1).due(0, "pass", 200).dueEach("stateOf", 'c', 'c', 'o', 'o').make("dispatch", 0)
                .due(0, "pass", 200).dueEach("stateOf", 't', 't', 'o', 'o').due(0, "onLoop").due(0, "inChute", 0)
                .due(2, "overflowed").dueEach("load", 0, 0, 0, 0, 0, 0, 0, 0);
    }

    private static void trays() {
        String sentence = "A loop has 4 to 20 trays";
        new Run("Loop", sentence).illegal("setLoop", 3).due(12, "setLoop", 4).due('o', "stationAt", 3);
        new Run("Loop", sentence).illegal("setLoop", 21).due(12, "setLoop", 20).due('o', "stationAt", 19);
    }

    private static void positions() {
        for (int trays : SIZES) {
            new Run("Loop", "its positions are numbered from 0, as many as there are trays").make("setLoop", trays)
                    .illegal("stationAt", -1).due('i', "stationAt", 0)
                    .due('o', "stationAt", trays - 1).illegal("stationAt", trays)
                    .illegal("trayAt", -1).noSuch("trayAt", 0).noSuch("trayAt", trays - 1).illegal("trayAt", trays);
        }
    }

    private static void emptyAndFullLoop() {
        for (int trays : SIZES) {
            Run x = new Run("Loop", "At each position there is one tray, which is empty or has a parcel.")
                    .make("setLoop", trays).make("jam", trays - 1);
            for (int i = 0; i < trays; i++) {
                x.noSuch("trayAt", i);
            }
            x.times(trays + 1, "arrive", 0, 1);
            for (int ticks : new int[] {trays - 1, 1, trays}) {
                x.make("pass", ticks);
            }
            x.due(trays, "onLoop").due(1, "waiting");
            for (int i = 0; i < trays; i++) {
                x.due(trays - 1 - i, "trayAt", i);
            }
        }
    }

    private static void move() {
        for (int trays : SIZES) {
            Run x = new Run("Loop", "When the loop moves, each tray goes to the next position, and the one at the last "
                    + "position to the position 0.").make("setLoop", trays).make("jam", trays - 1)
                    .make("arrive", 0, 1).make("arrive", 0, 1);
            x.make("pass", 1).due(0, "positionOf", 0);
            for (int i = 1; i <= 2 * trays + 1; i++) {
                int first = i % trays;
                int second = (i - 1) % trays;
                x.make("pass", 1).due(first, "positionOf", 0).due(second, "positionOf", 1)
                        .due(0, "trayAt", first).due(1, "trayAt", second);
                x.due(java.util.NoSuchElementException.class, "trayAt", (first + 1) % trays);
            }
        }
    }

    private static void ends() {
        for (int trays : SIZES) {
            Run x = new Run("Stations", "At the position 0 there is the loader, at the last one the overflow")
                    .make("setLoop", trays).due('i', "stationAt", 0).due('o', "stationAt", trays - 1);
            for (int i = 1; i < trays - 1; i++) {
                x.due('-', "stationAt", i);
            }
        }
    }

    private static void chutes() {
        String sentence = "at others there are chutes, at most 6, numbered from 0 in the order in which they were "
                + "added.";
        Run x = new Run("Stations", sentence).make("setLoop", 9);
        int[] positions = {7, 1, 4, 2, 6, 3};
        for (int i = 0; i < positions.length; i++) {
            x.outOfBounds("inChute", i);
            x.due(i, "addChute", positions[i], 1 + i).due('c', "stationAt", positions[i]);
        }
        x.illegalState("addChute", 5, 1).due('-', "stationAt", 5).outOfBounds("inChute", 6);
        for (int i = 0; i < positions.length; i++) {
            x.due(1 + i, "setCapacity", i, 30);
        }
        // A parcel of the route i has come to its chute after the move to the position, and one tick to load it.
        for (int i = 0; i < positions.length; i++) {
            x.make("assign", i, i).make("arrive", i, 1).due(0, "pass", positions[i]).due(1, "pass", 1)
                    .due(1, "inChute", i);
        }
    }

    private static void chutesInSmallestLoop() {
        new Run("Stations", "at others there are chutes").make("setLoop", 4)
                .illegal("addChute", 0, 1).due(0, "addChute", 1, 1).due(1, "addChute", 2, 1).illegal("addChute", 3, 1)
                .unsupported("addChute", 1, 1).unsupported("addChute", 2, 1)
                .dueEach("stationAt", 'i', 'c', 'c', 'o');
    }

    private static void capacity() {
        for (int capacity : new int[] {1, 2, 29, 30}) {
            new Run("Stations", "A chute has a capacity, a number of parcels.").make("setLoop", 4)
                    .due(0, "addChute", 1, capacity).make("assign", 0, 0).times(capacity + 2, "arrive", 0, 1)
                    .due(capacity - 1, "pass", capacity).due(1, "pass", 1).due(capacity, "inChute", 0)
                    .due(0, "pass", 2).due(capacity, "inChute", 0).due('l', "stateOf", capacity)
                    .due('l', "stateOf", capacity + 1);
        }
    }

    private static void jams() {
        Run x = new Run("Stations", "A station can be jammed.").make("setLoop", 8);
        for (int i = 1; i < 7; i++) {
            x.make("addChute", i, 1);
        }
        for (int i = 0; i < 8; i++) {
            x.due(i + 1, "jam", i).illegalState("jam", i);
        }
        for (int i = 7; i >= 0; i--) {
            x.due(i, "free", i).illegalState("free", i);
        }
    }

    private static void parcels() {
        Run x = new Run("Parcels", "At most 300 parcels arrive, numbered from 0");
        x.noSuch("stateOf", 0);
        for (int i = 0; i < 300; i++) {
            x.due(i, "arrive", i % 8, 1 + i % 9);
        }
        x.illegalState("arrive", 0, 1).due(300, "waiting").noSuch("stateOf", -1).due('w', "stateOf", 0)
                .due('w', "stateOf", 299).noSuch("stateOf", 300);
    }

    private static void routesAndWeights() {
        new Run("Parcels", "a parcel has a route from 0 to 7 and a weight from 1 to 9.")
                .illegal("arrive", -1, 5).due(0, "arrive", 0, 5).due(1, "arrive", 7, 5).illegal("arrive", 8, 5)
                .illegal("arrive", 3, 0).due(2, "arrive", 3, 1).due(3, "arrive", 4, 9).illegal("arrive", 4, 10)
                .dueEach("load", 5, 0, 0, 1, 9, 0, 0, 5);
    }

    // The parcel 1 has no chute: it has two rounds at the tick 10, and is at the last position at the tick 13.
    private static void states() {
        new Run("Parcels", "It waits in a queue, 'w', is on the loop, 'l', in a chute, 'c', in a truck, 't', or in the "
                + "overflow, 'o'.").make("setLoop", 4).make("addChute", 1, 1).make("assign", 0, 0)
                .make("arrive", 0, 1).make("arrive", 7, 1)
                .dueEach("stateOf", 'w', 'w')
                .due(0, "pass", 1).dueEach("stateOf", 'l', 'w')
                .due(1, "pass", 1).dueEach("stateOf", 'c', 'l')
                .make("dispatch", 0).dueEach("stateOf", 't', 'l')
                .due(0, "pass", 10).dueEach("stateOf", 't', 'l')
                .due(1, "pass", 1).dueEach("stateOf", 't', 'o');
    }

    private static void roundsBeginAnew() {
        String sentence = "A parcel on the loop has rounds, 0 when it is loaded.";
        // The tray has gone round empty.
        new Run("Parcels", sentence).make("setLoop", 4).make("pass", 13).make("arrive", 0, 1)
                .make("pass", 1).due(0, "roundsOf", 0);
        // The parcel before it went to the overflow with two rounds, from the tray that is at the position 0 next.
        new Run("Parcels", sentence).make("setLoop", 4).make("arrive", 0, 1).make("pass", 12).due(2, "roundsOf", 0)
                .make("arrive", 0, 1).make("pass", 1).due(0, "positionOf", 1).due(0, "roundsOf", 1)
                .make("pass", 3).due(0, "roundsOf", 1).make("pass", 1).due(1, "roundsOf", 1);
        // The parcel before it dropped after a round; its tray goes on empty, and is loaded at the position 0.
        new Run("Parcels", sentence).make("setLoop", 4).make("addChute", 1, 1).make("arrive", 0, 1).make("pass", 5)
                .make("assign", 0, 0).due(1, "pass", 1).make("arrive", 1, 1).make("arrive", 1, 1)
                .make("arrive", 1, 1).make("pass", 3).due(0, "positionOf", 3).due(0, "roundsOf", 3)
                .due(0, "roundsOf", 1);
    }

    // A loop with all states: a full chute, a jammed one, an empty one, trucks, the queue, the loop, the overflow.
    private static Run crowded(String section, String sentence) {
        return new Run(section, sentence).make("setLoop", 7).make("setLimit", 1)
                .make("addChute", 1, 1).make("addChute", 3, 2).make("addChute", 4, 30)
                .make("assign", 0, 0).make("assign", 1, 1).make("assign", 2, 2)
                .make("arrive", 0, 4).make("arrive", 7, 1).make("pass", 14).make("dispatch", 0)
                .make("arrive", 1, 9).make("arrive", 1, 8).make("pass", 6).make("dispatch", 1)
                .make("arrive", 0, 2).make("arrive", 1, 5).make("pass", 4).make("jam", 3).make("jam", 0)
                .make("arrive", 5, 3).make("arrive", 6, 7);
    }

    private static void refusedCallsChangeNothing() {
        Run x = crowded("Exceptions", "A method that throws an exception changes nothing.");
        x.illegal("setLoop", 3).illegalState("setLoop", 12);
        x.illegal("addChute", 0, 5).illegal("addChute", 6, 5).illegal("addChute", 2, 0).illegal("addChute", 2, 31);
        x.unsupported("addChute", 3, 5);
        x.outOfBounds("setCapacity", 3, 5).illegal("setCapacity", 0, 0).illegal("setCapacity", 0, 31);
        x.illegal("setLimit", 0).illegal("setLimit", 10);
        x.noSuch("jam", 2).illegalState("jam", 3).noSuch("free", 5).illegalState("free", 4).illegal("stationAt", 7);
        x.illegal("arrive", 8, 1).illegal("arrive", 0, 10).illegal("pass", 0).illegal("pass", 201);
        x.noSuch("stateOf", 8).noSuch("positionOf", 8).illegalState("positionOf", 0).noSuch("roundsOf", 8)
                .illegalState("roundsOf", 7).illegal("trayAt", 7).noSuch("trayAt", 0);
        x.illegal("leavingAhead", 0).illegal("leavingAhead", 201).illegal("leavingByTrays", 0)
                .illegal("leavingByTrays", 201);
        x.illegal("assign", 8, 0).outOfBounds("assign", 0, 3).illegal("unassign", 8).illegalState("unassign", 4);
        x.illegal("chuteFor", 8).noSuch("chuteFor", 4).illegal("load", 8);
        x.outOfBounds("inChute", 3).outOfBounds("seal", 3).outOfBounds("sealByParcels", 3);
        x.outOfBounds("dispatch", 3).illegalState("dispatch", 2);
        x.outOfBounds("sealOfTruck", 2).outOfBounds("parcelIn", 2, 0).noSuch("parcelIn", 1, 2);
        x.noSuch("truckOf", 8).illegalState("truckOf", 1);
        x.make("jam", 1).make("jam", 4).illegalState("startWave");
    }

    private static void firstException() {
        String sentence = "If several exceptions apply, the one that is documented first is thrown.";
        Run x = new Run("Exceptions", sentence);
        for (int position = 1; position <= 6; position++) {
            x.make("addChute", position, 30);
        }
        x.times(300, "arrive", 0, 1);
        x.illegal("setLoop", 3).illegal("setLoop", 21);
        x.illegal("addChute", 0, 1).illegal("addChute", 11, 1).illegal("addChute", 7, 0).illegal("addChute", 1, 31);
        x.unsupported("addChute", 6, 1).illegalState("addChute", 7, 1);
        x.outOfBounds("setCapacity", 6, 0).outOfBounds("setCapacity", -1, 31);
        x.illegal("arrive", 8, 1).illegal("arrive", 0, 0);
        x.illegal("assign", 8, 6).illegal("assign", -1, -1);
        x.outOfBounds("parcelIn", 0, -1).outOfBounds("parcelIn", -1, 0);
        x.make("assign", 0, 0).make("pass", 3).due(2, "inChute", 0).illegal("setCapacity", 0, 0)
                .illegalState("setCapacity", 0, 1);
    }

    private static void jamsStay() {
        String sentence = "When a loop with another number of trays is made, the loader and the overflow stay jammed "
                + "or not, as they were.";
        new Run("Clarifications", sentence).make("setLoop", 4).illegalState("free", 0).illegalState("free", 3);
        new Run("Clarifications", sentence).make("jam", 0).make("setLoop", 4).illegalState("jam", 0)
                .illegalState("free", 3).due(2, "jam", 3);
        new Run("Clarifications", sentence).make("jam", 11).make("setLoop", 20).illegalState("jam", 19)
                .illegalState("free", 0).noSuch("jam", 11).noSuch("free", 11).due(0, "free", 19);
        new Run("Clarifications", sentence).make("jam", 0).make("jam", 11).make("setLoop", 4).make("arrive", 0, 1)
                .make("pass", 1).due('w', "stateOf", 0).due(1, "free", 0).make("pass", 200).due('l', "stateOf", 0);
    }

    private static void waveEndsAssign() {
        new Run("Clarifications", "A wave also ends what assign() told of routes without load.")
                .make("addChute", 1, 5).make("addChute", 2, 5).make("assign", 0, 1).make("assign", 7, 1)
                .make("assign", 3, 1).make("arrive", 3, 1).due(1, "startWave")
                .noSuch("chuteFor", 0).due(0, "chuteFor", 3).noSuch("chuteFor", 7);
    }

    // Of 20 parcels that wait, the first is in the chute after two ticks, the last one after 21.
    private static void loadedInTheseTicks() {
        for (String name : new String[] {"leavingAhead", "leavingByTrays"}) {
            Run x = new Run("Clarifications", "The parcels that leave in the next ticks are also those that are loaded "
                    + "in these ticks.").make("addChute", 1, 30).make("assign", 0, 0).times(20, "arrive", 0, 1);
            x.due(0, name, 1).due(1, name, 2).due(19, name, 20).due(20, name, 21).due(20, name, 200);
            x.due(20, "waiting").due(0, "onLoop").due(20, "pass", 21);
        }
    }
}
