/** The boundaries that the promises 26 to 37 name: chutes, trucks, seals. */
final class EdgesOfPromises26To37 {
    private static final int[] FAR = {Integer.MIN_VALUE, -1000, 1000, Integer.MAX_VALUE};
    private static final String NO_CHUTE = "Throws `IndexOutOfBoundsException` if there is no such chute";
    private static final String NO_TRUCK = "Throws `IndexOutOfBoundsException` if there is no such truck";
    private static final String NONE_LEFT = "Throws `ArithmeticException` if none has left it";
    // The numbers plus 1 of the parcels 0 to 29 make 465, their first sums 30 * 31 * 32 / 6 = 4960.
    private static final int SEAL_OF_FIRST_THIRTY = 49600465;

    private EdgesOfPromises26To37() {
    }

    static void test() {
        noSuchChute(26, "inChute");
        emptyAndFullChute();
        noSuchChute(27, "seal");
        sealAsKeptUp();
        noSuchChute(28, "sealByParcels");
        sealByParcels();
        noSuchChute(29, "dispatch");
        dispatchOfNone();
        dispatchReturnsSeal();
        truckCounts();
        noSuchTruck(31, "sealOfTruck");
        sealsOfTrucks();
        noSuchTruck(32, "parcelIn", 0);
        noSuchIndex();
        truckOfNoParcel();
        parcelInNoTruck();
        trucksOfParcels();
        shippedWeights();
        roundsOfNone();
        meanRounds();
        shareOfNone();
        overflowShares();
        onceInAllStates();
        onceAtFullBounds();
    }

    // A loop of four trays with a chute at the position 1 for parcels of the route 0, and the limit 1.
    private static Run small(int promise, String sentence, int capacity) {
        return Run.ofPromise(promise, sentence).make("setLoop", 4).make("setLimit", 1).make("addChute", 1, capacity)
                .make("assign", 0, 0);
    }

    // So many parcels more are in the chute, which has room for them.
    private static Run drop(Run x, int parcels) {
        return x.times(parcels, "arrive", 0, 1).due(parcels, "pass", parcels + 1);
    }

    private static void noSuchChute(int promise, String name) {
        Run x = Run.ofPromise(promise, NO_CHUTE).outOfBounds(name, -1).outOfBounds(name, 0);
        for (int i = 0; i < 6; i++) {
            x.make("addChute", i + 1, 1).outOfBounds(name, -1).outOfBounds(name, i + 1);
        }
        for (int chute : FAR) {
            x.outOfBounds(name, chute);
        }
        x.make("assign", 0, 5).make("arrive", 0, 1).make("pass", 7).outOfBounds(name, 6).outOfBounds(name, 7);
        x.due(name.equals("inChute") ? 1 : 10001, name, 5);
    }

    private static void emptyAndFullChute() {
        for (int capacity : new int[] {1, 30}) {
            Run x = small(26, "Returns the number of parcels in a chute.", capacity).due(0, "inChute", 0)
                    .times(capacity + 1, "arrive", 0, 1).make("pass", 1).due(0, "inChute", 0);
            for (int i = 1; i <= capacity; i++) {
                x.make("pass", 1).due(i, "inChute", 0);
            }
            x.make("pass", 1).due(capacity, "inChute", 0).make("pass", 200).due(capacity, "inChute", 0)
                    .make("dispatch", 0).due(0, "inChute", 0).make("arrive", 0, 1).make("pass", 2).due(1, "inChute", 0);
        }
    }

    private static void sealAsKeptUp() {
        String sentence = "Returns the seal of a chute, as it is kept up.";
        small(27, sentence, 2).due(0, "seal", 0).times(3, "arrive", 0, 1).make("pass", 1).due(0, "seal", 0)
                .make("pass", 1).due(10001, "seal", 0).make("pass", 1).due(40003, "seal", 0).make("pass", 1)
                .due(40003, "seal", 0).make("dispatch", 0).due(0, "seal", 0).make("pass", 3).due(0, "seal", 0)
                .make("pass", 1).due(30003, "seal", 0);
        drop(small(27, sentence, 30), 30).due(SEAL_OF_FIRST_THIRTY, "seal", 0);
        // The first parcel that arrives has the number 0, the last one the number 299.
        Run.ofPromise(27, sentence).make("setLoop", 4).make("setLimit", 1).make("addChute", 1, 1)
                .times(299, "arrive", 1, 1).make("pass", 200).make("pass", 200).make("pass", 200).make("pass", 3)
                .make("assign", 0, 0).make("arrive", 0, 1).due(1, "pass", 2).due(3000300, "seal", 0);
    }

    private static void sealByParcels() {
        String sentence = "Returns the same seal, found from the parcels.";
        small(28, sentence, 2).due(0, "sealByParcels", 0).times(3, "arrive", 0, 1).make("pass", 1)
                .due(0, "sealByParcels", 0).make("pass", 1).due(10001, "sealByParcels", 0)
                .make("pass", 2).due(40003, "sealByParcels", 0).make("dispatch", 0).due(0, "sealByParcels", 0)
                .make("pass", 4).due(30003, "sealByParcels", 0).due(30003, "seal", 0);
        drop(small(28, sentence, 30), 30).due(SEAL_OF_FIRST_THIRTY, "sealByParcels", 0);
    }

    private static void dispatchOfNone() {
        small(29, "Throws `IllegalStateException` if no parcel is in it", 1).illegalState("dispatch", 0)
                .make("arrive", 0, 1).illegalState("dispatch", 0).make("pass", 1).illegalState("dispatch", 0)
                .make("pass", 1).due(10001, "dispatch", 0).illegalState("dispatch", 0).due(1, "trucks")
                .make("addChute", 2, 1).illegalState("dispatch", 1).outOfBounds("dispatch", 2);
    }

    private static void dispatchReturnsSeal() {
        String sentence = "Returns the seal of the chute before the call, which is that of the truck.";
        drop(small(29, sentence, 30), 1).due(10001, "dispatch", 0).due(10001, "sealOfTruck", 0).due(0, "seal", 0);
        drop(small(29, sentence, 30), 30).due(SEAL_OF_FIRST_THIRTY, "dispatch", 0)
                .due(SEAL_OF_FIRST_THIRTY, "sealOfTruck", 0).due(0, "inChute", 0).make("arrive", 0, 1)
                .due(1, "pass", 2).due(310031, "dispatch", 0).due(310031, "sealOfTruck", 1);
        // A jam does not keep the truck from a chute.
        drop(small(29, sentence, 30), 2).make("jam", 1).due(40003, "dispatch", 0);
    }

    private static void truckCounts() {
        Run x = small(30, "Returns the number of trucks.", 1).due(0, "trucks").illegalState("dispatch", 0)
                .due(0, "trucks");
        for (int i = 0; i < 30; i++) {
            drop(x, 1).due(i, "trucks").make("dispatch", 0).due(i + 1, "trucks");
        }
    }

    private static void noSuchTruck(int promise, String name, int... others) {
        int[] wrong = {FAR[0], -2, -1, 0, 1, 299, 300, FAR[3]};
        Run x = small(promise, NO_TRUCK, 1);
        refuseTrucks(x, name, others, wrong);
        drop(x, 1);
        refuseTrucks(x, name, others, wrong);
        x.make("dispatch", 0);
        refuseTrucks(x, name, others, new int[] {FAR[0], -1, 1, 2, FAR[3]});
        drop(x, 1).make("dispatch", 0);
        refuseTrucks(x, name, others, new int[] {FAR[0], -1, 2, 3, FAR[3]});
        boolean seals = others.length == 0;
        x.due(seals ? 10001 : 0, name, withFirst(0, others)).due(seals ? 20002 : 1, name, withFirst(1, others));
    }

    private static void refuseTrucks(Run x, String name, int[] others, int[] trucks) {
        for (int truck : trucks) {
            x.outOfBounds(name, withFirst(truck, others));
        }
    }

    private static int[] withFirst(int first, int[] others) {
        int[] all = new int[others.length + 1];
        all[0] = first;
        System.arraycopy(others, 0, all, 1, others.length);
        return all;
    }

    private static void sealsOfTrucks() {
        Run x = small(31, "Returns the seal of a truck, found from its parcels.", 30);
        drop(x, 1).make("dispatch", 0);
        drop(x, 30).make("dispatch", 0);
        drop(x, 2).make("dispatch", 0);
        // The parcels 1 to 30: 465 + 30, and 4960 + 465. The parcels 31 and 32: 32 and 65, 32 and 97.
        x.due(10001, "sealOfTruck", 0).due(54250495, "sealOfTruck", 1).due(970065, "sealOfTruck", 2);
        drop(x, 1).due(10001, "sealOfTruck", 0).due(970065, "sealOfTruck", 2);
    }

    // A truck with one parcel, one with 30, and one with two.
    private static void noSuchIndex() {
        for (String part : new String[] {"- `index`: the index in the order in which they dropped, from 0",
            "Throws `NoSuchElementException` if there is no such index"}) {
            Run x = small(32, part, 30);
            drop(x, 1).make("dispatch", 0);
            drop(x, 30).make("dispatch", 0);
            drop(x, 2).make("dispatch", 0);
            int[] sizes = {1, 30, 2};
            for (int truck = 0; truck < sizes.length; truck++) {
                x.noSuch("parcelIn", truck, -1).noSuch("parcelIn", truck, sizes[truck]);
                for (int index : FAR) {
                    x.noSuch("parcelIn", truck, index);
                }
            }
            x.due(0, "parcelIn", 0, 0).due(1, "parcelIn", 1, 0).due(30, "parcelIn", 1, 29).due(31, "parcelIn", 2, 0)
                    .due(32, "parcelIn", 2, 1).outOfBounds("parcelIn", 3, 0).outOfBounds("parcelIn", 3, -1);
        }
    }

    private static void truckOfNoParcel() {
        Run x = small(33, "Throws `NoSuchElementException` if there is no such parcel", 1).noSuch("truckOf", -1)
                .noSuch("truckOf", 0);
        drop(x, 1).make("dispatch", 0).noSuch("truckOf", -1).due(0, "truckOf", 0).noSuch("truckOf", 1)
                .noSuch("truckOf", 299).noSuch("truckOf", 300);
        for (int parcel : FAR) {
            x.noSuch("truckOf", parcel);
        }
    }

    private static void parcelInNoTruck() {
        small(33, "Throws `IllegalStateException` if it is in no truck", 1).times(2, "arrive", 0, 1)
                .illegalState("truckOf", 0).make("pass", 1).illegalState("truckOf", 0).illegalState("truckOf", 1)
                .make("pass", 1).illegalState("truckOf", 0).illegalState("truckOf", 1)
                .make("dispatch", 0).due(0, "truckOf", 0).illegalState("truckOf", 1)
                .make("jam", 1).make("pass", 7).due('o', "stateOf", 1).illegalState("truckOf", 1)
                .due(0, "truckOf", 0);
    }

    private static void trucksOfParcels() {
        Run x = small(33, "Returns the truck in which a parcel is.", 30);
        drop(x, 30).make("dispatch", 0);
        drop(x, 1).make("dispatch", 0);
        x.due(0, "truckOf", 0).due(0, "truckOf", 29).due(1, "truckOf", 30);
    }

    private static void shippedWeights() {
        String sentence = "Returns the sum of the weights of all parcels in trucks.";
        small(34, sentence, 2).due(0L, "shipped").make("arrive", 0, 9).make("arrive", 0, 1).make("arrive", 0, 9)
                .due(0L, "shipped").make("pass", 3).due(0L, "shipped").make("dispatch", 0).due(10L, "shipped")
                .make("jam", 1).make("pass", 200).due(1, "overflowed").due(10L, "shipped").make("free", 1)
                .make("arrive", 0, 1).make("pass", 2).due(10L, "shipped").make("dispatch", 0).due(11L, "shipped");
        Run x = small(34, sentence, 30);
        for (int truck = 1; truck <= 10; truck++) {
            x.times(30, "arrive", 0, 9).due(30, "pass", 31).make("dispatch", 0).due(truck * 270L, "shipped");
        }
        x.due(0, "overflowed").due(0, "onLoop");
    }

    private static void roundsOfNone() {
        small(35, NONE_LEFT, 1).arithmetic("meanRounds").make("arrive", 0, 1).arithmetic("meanRounds").make("pass", 1)
                .arithmetic("meanRounds").make("pass", 1).due(0.0, "meanRounds").make("dispatch", 0)
                .due(0.0, "meanRounds");
        Run.ofPromise(35, NONE_LEFT).make("setLoop", 4).make("setLimit", 1).make("arrive", 0, 1).make("pass", 7)
                .arithmetic("meanRounds").make("pass", 1).due(1.0, "meanRounds");
    }

    private static void meanRounds() {
        String sentence = "Returns the sum of their rounds divided by their number, both converted to double.";
        // One in a truck without rounds, one in a chute without rounds, one in the overflow with one, one on the loop.
        small(35, sentence, 1).times(3, "arrive", 0, 1).make("pass", 3).make("dispatch", 0).make("pass", 1)
                .due(0.0, "meanRounds").due(0, "pass", 4).due(1, "pass", 1).due(1.0 / 3.0, "meanRounds")
                .make("arrive", 7, 1).make("pass", 6).due(1.0 / 3.0, "meanRounds").make("pass", 200)
                .due(2.0 / 4.0, "meanRounds");
        Run.ofPromise(35, sentence).make("setLoop", 4).make("setLimit", 9).make("arrive", 0, 1).make("pass", 40)
                .due(9.0, "meanRounds").make("setLimit", 1).times(2, "arrive", 0, 1).make("pass", 9)
                .due(11.0 / 3.0, "meanRounds");
        Run.ofPromise(35, sentence).make("setLoop", 4).make("setLimit", 1).times(300, "arrive", 0, 1)
                .make("pass", 200).make("pass", 200).make("pass", 200).make("pass", 3).due(1.0, "meanRounds");
        // The parcel is loaded at the first of 505 times 200 ticks; 4 ticks later it leaves with 25250 rounds.
        Run.ofPromise(35, sentence).make("setLoop", 4).make("jam", 3).make("arrive", 0, 1).times(505, "pass", 200)
                .make("free", 3).due(1, "pass", 4).due(25250.0, "meanRounds").due(25250, "roundsOf", 0);
    }

    private static void shareOfNone() {
        small(36, NONE_LEFT, 1).arithmetic("overflowShare").make("arrive", 0, 1).arithmetic("overflowShare")
                .make("pass", 1).arithmetic("overflowShare").make("pass", 1).due(0.0f, "overflowShare")
                .make("dispatch", 0).due(0.0f, "overflowShare");
        Run.ofPromise(36, NONE_LEFT).make("setLoop", 4).make("setLimit", 1).make("arrive", 0, 1).make("pass", 7)
                .arithmetic("overflowShare").make("pass", 1).due(1.0f, "overflowShare");
    }

    private static void overflowShares() {
        String sentence = "Returns the number of those in the overflow divided by that of all that have left the loop, "
                + "both converted to float.";
        small(36, sentence, 1).times(3, "arrive", 0, 1).make("pass", 3).make("dispatch", 0).make("pass", 1)
                .due(0.0f, "overflowShare").make("pass", 5).due(1.0f / 3.0f, "overflowShare").make("arrive", 7, 1)
                .make("pass", 6).due(1.0f / 3.0f, "overflowShare").make("pass", 200).due(0.5f, "overflowShare");
        Run.ofPromise(36, sentence).make("setLoop", 4).make("setLimit", 1).times(300, "arrive", 0, 1)
                .make("pass", 200).due(1.0f, "overflowShare").make("pass", 200).make("pass", 200).make("pass", 3)
                .due(1.0f, "overflowShare");
        drop(small(36, sentence, 30), 30).due(0.0f, "overflowShare").make("arrive", 1, 1).make("pass", 200)
                .due(1.0f / 31.0f, "overflowShare");
    }

    private static void onceInAllStates() {
        Run x = small(37, "Returns whether this holds.", 2).due(true, "isOnce").times(6, "arrive", 0, 1)
                .due(true, "isOnce").changesNothing("isOnce");
        for (int tick = 1; tick <= 30; tick++) {
            x.make("pass", 1).due(true, "isOnce");
            if (tick == 6) {
                x.make("dispatch", 0).due(true, "isOnce").make("jam", 1).due(true, "isOnce").make("arrive", 7, 1);
            }
            if (tick == 20) {
                x.make("free", 1).make("startWave").due(true, "isOnce").changesNothing("isOnce");
            }
        }
    }

    private static void onceAtFullBounds() {
        String sentence = "those that wait, are on the loop, in chutes, in trucks and in the overflow are all that "
                + "have arrived, none of them twice";
        Run.ofPromise(37, sentence).times(300, "arrive", 0, 1).due(true, "isOnce").illegalState("arrive", 0, 1)
                .due(true, "isOnce").make("pass", 1).due(true, "isOnce");
        Run.ofPromise(37, sentence).make("setLoop", 4).make("setLimit", 1).times(300, "arrive", 0, 1)
                .make("pass", 200).due(true, "isOnce").make("pass", 200).make("pass", 200).make("pass", 3)
                .due(300, "overflowed").due(true, "isOnce");
        Run trucks = small(37, sentence, 30);
        for (int truck = 0; truck < 10; truck++) {
            drop(trucks, 30).due(true, "isOnce").make("dispatch", 0).due(true, "isOnce");
        }
        // All seals by their parcels, in the first chute and in the last one.
        Run chutes = Run.ofPromise(37, "the seals of all chutes are the same by their parcels").make("setLoop", 20);
        for (int i = 0; i < 6; i++) {
            chutes.make("addChute", i + 1, 30).make("assign", i, i).due(true, "isOnce");
        }
        for (int i = 0; i < 180; i++) {
            chutes.make("arrive", i % 6, 1);
        }
        chutes.due(180, "pass", 190).dueEach("inChute", 30, 30, 30, 30, 30, 30).due(true, "isOnce")
                .make("dispatch", 0).due(true, "isOnce").make("dispatch", 5).due(true, "isOnce");
        Run.ofPromise(37, "and as many parcels leave the loop in the next 60 ticks tray by tray.").make("setLoop", 4)
                .make("setLimit", 1).times(300, "arrive", 0, 1).due(true, "isOnce").make("pass", 59)
                .due(true, "isOnce").make("jam", 0).due(true, "isOnce").make("jam", 3).due(true, "isOnce");
    }
}
