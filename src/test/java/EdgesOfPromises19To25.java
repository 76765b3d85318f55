/** The boundaries that the promises 19 to 25 name: the next ticks, routes and waves. */
final class EdgesOfPromises19To25 {
    private static final int[] FAR = {Integer.MIN_VALUE, -1000, 1000, Integer.MAX_VALUE};

    private EdgesOfPromises19To25() {
    }

    static void test() {
        String ahead = "Returns how many parcels leave the loop in the next ticks if nothing else happens, found with "
                + "an origin that moves.";
        String byTrays = "Returns the same number, found tray by tray.";
        nextTicks(19, "leavingAhead", ahead);
        nextTicks(20, "leavingByTrays", byTrays);
        waveWithoutChute();
        routesOfWave();
        routesOutOfRange(22, "assign", 0);
        assignToNoChute();
        chuteBeforeOrNone();
        routesOutOfRange(23, "unassign");
        unassignNone();
        routesOutOfRange(24, "chuteFor");
        chuteForNone();
        routesOutOfRange(25, "load");
        loads();
    }

    private static void nextTicks(int promise, String name, String sentence) {
        ticksOutOfRange(promise, name);
        noneLeaves(promise, name, sentence);
        leavesAtLastTick(promise, name, sentence);
        leavesAtFirstTick(promise, name, sentence);
        chuteFills(promise, name, sentence);
        loopComesRound(promise, name, sentence);
        manyLeave(promise, name, sentence);
        emptiedTraysAreLoaded(promise, name, sentence);
        lowerLimit(promise, name, sentence);
        jammedStations(promise, name, sentence);
        nothingChanges(promise, name, sentence);
    }

    private static void ticksOutOfRange(int promise, String name) {
        for (String part : new String[] {"- `ticks`: the number of ticks, 1 to 200",
            "Throws `IllegalArgumentException` if the number is out of range"}) {
            Run x = Run.ofPromise(promise, part).make("arrive", 0, 1);
            for (int ticks : new int[] {0, 201, -1, 202}) {
                x.illegal(name, ticks);
            }
            for (int ticks : FAR) {
                x.illegal(name, ticks);
            }
            x.due(0, name, 1).due(1, name, 200);
        }
    }

    private static void noneLeaves(int promise, String name, String sentence) {
        Run.ofPromise(promise, sentence).due(0, name, 1).due(0, name, 200).make("addChute", 1, 1).make("assign", 0, 0)
                .due(0, name, 200).make("arrive", 0, 1).due(1, name, 200).make("pass", 2).due(0, name, 200)
                .make("dispatch", 0).due(0, name, 200);
    }

    // With the limit 9 and 20 trays, a parcel is at the overflow with 9 rounds at the tick 1 + 9 * 20 + 19.
    private static void leavesAtLastTick(int promise, String name, String sentence) {
        Run.ofPromise(promise, sentence).make("setLoop", 20).make("setLimit", 9).make("arrive", 0, 1)
                .due(0, name, 199).due(1, name, 200).make("pass", 1).due(0, name, 198).due(1, name, 199)
                .make("pass", 100).due(0, name, 98).due(1, name, 99).make("pass", 98).due(1, name, 1)
                .due(1, "pass", 1).due(0, name, 1).due(0, name, 200);
    }

    private static void leavesAtFirstTick(int promise, String name, String sentence) {
        Run.ofPromise(promise, sentence).make("setLoop", 4).make("addChute", 1, 1).make("addChute", 2, 1)
                .make("assign", 0, 0).make("assign", 1, 1).make("arrive", 0, 1).make("arrive", 1, 1)
                .due(0, name, 1).due(1, name, 2).due(1, name, 3).due(2, name, 4)
                .make("pass", 1).due(1, name, 1).due(1, name, 2).due(2, name, 3)
                .make("pass", 1).due(0, name, 1).due(1, name, 2).make("pass", 1).due(1, name, 1);
    }

    // The chute has room for two of three parcels; the third one is in the overflow at the tick 3 + 2 * 4 + 3.
    private static void chuteFills(int promise, String name, String sentence) {
        Run.ofPromise(promise, sentence).make("setLoop", 4).make("addChute", 1, 2).make("assign", 0, 0)
                .times(3, "arrive", 0, 1).due(1, name, 2).due(2, name, 3).due(2, name, 4).due(2, name, 13)
                .due(3, name, 14).due(3, name, 200)
                .make("pass", 3).due(0, name, 10).due(1, name, 11).make("dispatch", 0).due(1, name, 1)
                .make("setCapacity", 0, 1).due(1, name, 1).make("jam", 1).due(0, name, 10).due(1, name, 11);
    }

    private static void loopComesRound(int promise, String name, String sentence) {
        for (int trays : new int[] {4, 12, 20}) {
            Run.ofPromise(promise, sentence).make("setLoop", trays).make("setLimit", 1).make("arrive", 0, 1)
                    .due(0, name, 2 * trays - 1).due(1, name, 2 * trays)
                    .make("pass", trays).due(trays - 1, "positionOf", 0).due(0, name, trays - 1).due(1, name, trays)
                    .make("pass", 1).due(0, "positionOf", 0).due(0, name, trays - 2).due(1, name, trays - 1)
                    .make("pass", trays - 2).due(1, name, 1);
        }
    }

    // Each of four trays gets rid of a parcel each eight ticks: at 8, 16 and so on, at 9, 17, at 10, at 11.
    private static void manyLeave(int promise, String name, String sentence) {
        Run.ofPromise(promise, sentence).make("setLoop", 4).make("setLimit", 1).times(300, "arrive", 0, 1)
                .due(0, name, 7).due(1, name, 8).due(4, name, 11).due(4, name, 15).due(5, name, 16)
                .due(96, name, 199).due(97, name, 200).due(97, "pass", 200).due(100, name, 200).due(100, "pass", 200)
                .due(100, name, 200).due(100, "pass", 200).due(1, name, 1).due(3, name, 3).due(3, name, 200);
        Run.ofPromise(promise, sentence).make("setLoop", 4).make("jam", 3).make("addChute", 1, 30).make("assign", 0, 0)
                .times(40, "arrive", 0, 1).due(29, name, 30).due(30, name, 31).due(30, name, 32).due(30, name, 200);
    }

    // The loop is full and one parcel waits: it is loaded when the tray that the overflow has emptied comes round.
    private static void emptiedTraysAreLoaded(int promise, String name, String sentence) {
        Run.ofPromise(promise, sentence).make("setLoop", 4).make("setLimit", 1).make("addChute", 1, 1)
                .make("assign", 1, 0).times(4, "arrive", 0, 1).make("arrive", 1, 1).make("pass", 7)
                .due(4, "onLoop").due(1, "waiting").due(1, name, 1).due(2, name, 2).due(4, name, 3).due(5, name, 4)
                .due(5, name, 200).due(5, "pass", 4);
    }

    private static void lowerLimit(int promise, String name, String sentence) {
        Run.ofPromise(promise, sentence).make("setLoop", 4).make("setLimit", 9).make("arrive", 0, 1).make("pass", 11)
                .due(0, name, 28).due(1, name, 29).make("setLimit", 1).due(1, name, 1)
                .make("setLimit", 2).due(1, name, 1).make("setLimit", 3).due(0, name, 4).due(1, name, 5);
    }

    private static void jammedStations(int promise, String name, String sentence) {
        Run.ofPromise(promise, sentence).make("setLoop", 4).make("addChute", 1, 5).make("assign", 0, 0)
                .times(2, "arrive", 0, 1).make("pass", 1).due(2, name, 200)
                .make("jam", 0).due(1, name, 200).make("jam", 1).due(0, name, 10).due(1, name, 11).due(1, name, 200)
                .make("jam", 3).due(0, name, 200).make("free", 0).due(0, name, 200).make("free", 1).due(2, name, 200);
    }

    private static void nothingChanges(int promise, String name, String sentence) {
        Run.ofPromise(promise, sentence).make("setLoop", 5).make("setLimit", 1).make("addChute", 1, 2)
                .make("addChute", 3, 1).make("assign", 0, 0).make("assign", 1, 1).times(3, "arrive", 0, 1)
                .times(2, "arrive", 1, 1).times(4, "arrive", 2, 1).changesNothing(name, 200).make("pass", 6)
                .changesNothing(name, 1).changesNothing(name, 200).make("pass", 1).changesNothing(name, 57);
    }

    private static void waveWithoutChute() {
        String sentence = "Throws `IllegalStateException` if there is no chute that is not jammed";
        Run.ofPromise(21, sentence).illegalState("startWave").make("arrive", 0, 1).illegalState("startWave")
                .make("addChute", 1, 1).due(1, "startWave").due(0, "chuteFor", 0);
        Run x = Run.ofPromise(21, sentence).make("arrive", 0, 1);
        for (int i = 0; i < 6; i++) {
            x.make("addChute", i + 1, 1).make("assign", i, i).make("jam", i + 1).illegalState("startWave");
        }
        x.dueEach("chuteFor", 0, 1, 2, 3, 4, 5).make("free", 6).due(1, "startWave").due(5, "chuteFor", 0)
                .noSuch("chuteFor", 5).make("free", 1).make("jam", 6).due(1, "startWave").due(0, "chuteFor", 0)
                .make("jam", 1).illegalState("startWave");
    }

    private static void routesOfWave() {
        String sentence = "Returns the number of routes that are assigned to chutes.";
        Run none = Run.ofPromise(21, sentence).make("addChute", 1, 1).make("assign", 0, 0).make("assign", 7, 0)
                .due(0, "startWave");
        for (int route = 0; route < 8; route++) {
            none.noSuch("chuteFor", route);
        }
        Run x = Run.ofPromise(21, sentence).make("addChute", 1, 1);
        for (int route = 7; route >= 0; route--) {
            x.make("arrive", route, 1).due(8 - route, "startWave").due(0, "chuteFor", route);
        }
        x.due(8, "startWave").dueEach("chuteFor", 0, 0, 0, 0, 0, 0, 0, 0);
        Run full = Run.ofPromise(21, sentence);
        for (int i = 0; i < 6; i++) {
            full.make("addChute", 6 - i, 1);
        }
        for (int i = 0; i < 300; i++) {
            full.make("arrive", 7 - i % 8, 9);
        }
        // The routes 4 to 7 have 38 parcels, the others 37: after 4 to 7 and 0, 1 the sums are 342 and 333.
        full.due(8, "startWave").dueEach("chuteFor", 4, 5, 4, 5, 0, 1, 2, 3);
    }

    private static void routesOutOfRange(int promise, String name, int... others) {
        for (String part : new String[] {"- `route`: the route, 0 to 7",
            "Throws `IllegalArgumentException` if the route is out of range"}) {
            Run x = Run.ofPromise(promise, part).make("addChute", 1, 1).make("assign", 0, 0).make("assign", 7, 0);
            for (int route : new int[] {-1, 8, 9, FAR[0], FAR[1], FAR[2], FAR[3]}) {
                int[] arguments = new int[others.length + 1];
                arguments[0] = route;
                System.arraycopy(others, 0, arguments, 1, others.length);
                x.illegal(name, arguments);
            }
            int[] last = new int[others.length + 1];
            int[] first = last.clone();
            last[0] = 7;
            x.due(0, name, first).due(0, name, last);
        }
    }

    private static void assignToNoChute() {
        Run x = Run.ofPromise(22, "Throws `IndexOutOfBoundsException` if there is no such chute")
                .outOfBounds("assign", 0, 0).outOfBounds("assign", 0, -1);
        for (int i = 0; i < 6; i++) {
            x.make("addChute", i + 1, 1).due(i - 1, "assign", 0, i).outOfBounds("assign", 0, i + 1)
                    .outOfBounds("assign", 0, -1).due(i, "chuteFor", 0);
        }
        for (int chute : FAR) {
            x.outOfBounds("assign", 7, chute).illegal("assign", 8, chute);
        }
        x.noSuch("chuteFor", 7);
    }

    private static void chuteBeforeOrNone() {
        Run.ofPromise(22, "Returns the chute before, or -1.").make("addChute", 1, 1).make("addChute", 2, 1)
                .due(-1, "assign", 0, 0).due(0, "assign", 0, 0).due(0, "assign", 0, 1).due(1, "assign", 0, 1)
                .due(-1, "assign", 7, 1).make("unassign", 0).due(-1, "assign", 0, 1)
                .make("arrive", 3, 1).make("startWave").due(-1, "assign", 0, 1).due(0, "assign", 3, 1)
                .due(-1, "assign", 7, 0);
        // A chute that is jammed or full is one as well.
        Run.ofPromise(22, "Returns the chute before, or -1.").make("setLoop", 4).make("addChute", 1, 1)
                .make("addChute", 2, 1).make("assign", 0, 0).make("arrive", 0, 1).due(1, "pass", 2).make("jam", 2)
                .due(-1, "assign", 7, 0).due(0, "assign", 0, 1).due(0, "assign", 7, 1).due(1, "assign", 0, 0);
    }

    private static void unassignNone() {
        Run x = Run.ofPromise(23, "Throws `IllegalStateException` if it is assigned to none").make("addChute", 1, 1)
                .make("addChute", 2, 1);
        for (int route = 0; route < 8; route++) {
            x.illegalState("unassign", route).make("assign", route, route % 2).due(route % 2, "unassign", route)
                    .illegalState("unassign", route);
        }
        x.make("assign", 3, 0).make("startWave").illegalState("unassign", 3);
    }

    private static void chuteForNone() {
        Run x = Run.ofPromise(24, "Throws `NoSuchElementException` if it is assigned to none").make("addChute", 1, 1);
        for (int route = 0; route < 8; route++) {
            x.noSuch("chuteFor", route).make("assign", route, 0).due(0, "chuteFor", route);
        }
        x.make("unassign", 0).noSuch("chuteFor", 0).due(0, "chuteFor", 1).make("unassign", 7).noSuch("chuteFor", 7);
        x.make("startWave").noSuch("chuteFor", 1);
    }

    private static void loads() {
        Run.ofPromise(25, "Returns the load of a route.").dueEach("load", 0, 0, 0, 0, 0, 0, 0, 0)
                .make("arrive", 0, 1).due(1, "load", 0).make("arrive", 0, 9).due(10, "load", 0)
                .make("arrive", 7, 9).dueEach("load", 10, 0, 0, 0, 0, 0, 0, 9)
                .illegal("arrive", 0, 10).due(10, "load", 0).make("pass", 200)
                .dueEach("load", 0, 0, 0, 0, 0, 0, 0, 0).changesNothing("load", 0);
    }
}
