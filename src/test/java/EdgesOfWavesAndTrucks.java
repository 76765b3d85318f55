/** The boundaries that the paragraphs "Waves" and "Trucks and seals" name. */
final class EdgesOfWavesAndTrucks {
    private static final String WAVE = "When a wave is started, the routes with a load greater than 0 are assigned "
            + "anew, those with the greatest load first, of several the one with the lowest number: each one to the "
            + "chute that is not jammed and has the least sum of loads of routes that this wave has assigned to it, of "
            + "several to the one with the lowest number; all other routes are assigned to none.";
    private static final String LOAD = "The load of a route is the sum of the weights of its parcels that wait or are "
            + "on the loop.";
    private static final String SEAL = "The seal of parcels in an order is found with two sums, both 0 at first: for "
            + "each parcel, its number plus 1 is added to the first sum, of which the remainder of the division by "
            + "9973 is kept, and then the first sum is added to the second one, of which the same remainder is kept; "
            + "the seal is 10000 times the second sum plus the first one.";

    private EdgesOfWavesAndTrucks() {
    }

    static void test() {
        oneOrNone();
        loadOfStates();
        leastLoad();
        greatestLoadFirst();
        equalLoads();
        equalSums();
        sumsBeginAnew();
        jammedChutes();
        fullChutes();
        orderInTruck();
        trucksFromZero();
        sealOfNone();
        secondSumAtDivisor();
        orderInSeal();
        sealIsKeptUp();
    }

    private static void oneOrNone() {
        Run x = new Run("Waves", "A route is assigned to one chute or to none.").make("addChute", 1, 1)
                .make("addChute", 2, 1);
        for (int route = 0; route < 8; route++) {
            x.noSuch("chuteFor", route).due(-1, "assign", route, 0).due(0, "chuteFor", route)
                    .due(0, "assign", route, 1).due(1, "chuteFor", route).due(1, "unassign", route)
                    .noSuch("chuteFor", route);
        }
    }

    private static void loadOfStates() {
        new Run("Waves", LOAD).make("setLoop", 4).make("addChute", 1, 1).make("assign", 0, 0).due(0, "load", 0)
                .make("arrive", 0, 9).make("arrive", 0, 1).make("arrive", 1, 5).due(10, "load", 0)
                .make("pass", 1).due(10, "load", 0).make("pass", 1).due(1, "load", 0)
                .make("dispatch", 0).due(1, "load", 0).make("jam", 1)
                .make("pass", 10).due(1, "load", 0).due(5, "load", 1)
                .make("pass", 1).due(0, "load", 0).due(5, "load", 1).make("pass", 1).due(0, "load", 1);
        new Run("Waves", LOAD).make("jam", 11).times(300, "arrive", 7, 9).due(2700, "load", 7).due(0, "load", 6)
                .make("pass", 200).due(12, "onLoop").due(2700, "load", 7);
    }

    private static void leastLoad() {
        new Run("Waves", WAVE).make("setLoop", 4).make("addChute", 2, 5).make("assign", 0, 0).make("arrive", 0, 1)
                .due(1, "startWave").due(0, "chuteFor", 0).make("pass", 2).due(1, "startWave").due(0, "chuteFor", 0)
                .make("pass", 1).due(0, "load", 0).due(0, "startWave").noSuch("chuteFor", 0);
    }

    // By load the routes come in the order 7, 3, 5: the sums are 9 and 6, then 9 and 8.
    private static void greatestLoadFirst() {
        new Run("Waves", WAVE).make("addChute", 8, 5).make("addChute", 2, 5)
                .make("arrive", 5, 2).make("arrive", 3, 6).make("arrive", 7, 9)
                .due(3, "startWave").due(0, "chuteFor", 7).due(1, "chuteFor", 3).due(1, "chuteFor", 5);
        // The sum of many small parcels is a greater load than one heavy parcel.
        new Run("Waves", WAVE).make("addChute", 8, 5).make("addChute", 2, 5).make("arrive", 0, 9)
                .times(10, "arrive", 1, 1).due(2, "startWave").due(1, "chuteFor", 0).due(0, "chuteFor", 1);
    }

    private static void equalLoads() {
        new Run("Waves", WAVE).make("addChute", 3, 5).make("addChute", 2, 5).make("addChute", 1, 5)
                .make("arrive", 7, 4).make("arrive", 0, 4).make("arrive", 4, 4)
                .due(3, "startWave").due(0, "chuteFor", 0).due(1, "chuteFor", 4).due(2, "chuteFor", 7);
        new Run("Waves", WAVE).make("addChute", 3, 5).make("addChute", 2, 5)
                .make("arrive", 7, 4).make("arrive", 0, 3).due(2, "startWave").due(1, "chuteFor", 0)
                .due(0, "chuteFor", 7).make("arrive", 0, 1).due(2, "startWave").due(0, "chuteFor", 0)
                .due(1, "chuteFor", 7);
    }

    // After the routes 0 to 2 the sums are 4, 4 and 4; the route 3 makes it 7, 4 and 4, the route 4 then 7, 6 and 4.
    private static void equalSums() {
        new Run("Waves", WAVE).make("addChute", 1, 5).make("addChute", 2, 5).make("addChute", 3, 5)
                .make("arrive", 0, 4).make("arrive", 1, 4).make("arrive", 2, 4).make("arrive", 3, 3)
                .make("arrive", 4, 2).make("arrive", 5, 1)
                .due(6, "startWave").dueEach("chuteFor", 0, 1, 2, 0, 1, 2);
    }

    private static void sumsBeginAnew() {
        Run x = new Run("Waves", WAVE).make("addChute", 1, 5).make("addChute", 2, 5).make("arrive", 4, 9);
        for (int i = 0; i < 3; i++) {
            x.due(1, "startWave").due(0, "chuteFor", 4);
        }
        // What was assigned by calls counts for no sum, even if its route has a load.
        x.make("assign", 4, 1).make("assign", 3, 0).due(1, "startWave").due(0, "chuteFor", 4).noSuch("chuteFor", 3);
    }

    private static void jammedChutes() {
        new Run("Waves", WAVE).make("addChute", 1, 5).make("addChute", 2, 5).make("addChute", 3, 5)
                .make("arrive", 0, 5).make("arrive", 1, 5).make("arrive", 2, 5).make("jam", 1).make("jam", 3)
                .due(3, "startWave").dueEach("chuteFor", 1, 1, 1)
                .make("free", 1).due(3, "startWave").dueEach("chuteFor", 0, 1, 0)
                .make("free", 3).due(3, "startWave").dueEach("chuteFor", 0, 1, 2);
        // The loader and the overflow are no chutes.
        new Run("Waves", WAVE).make("addChute", 1, 5).make("jam", 0).make("jam", 11).make("arrive", 0, 5)
                .due(1, "startWave").due(0, "chuteFor", 0);
    }

    // The document tells of chutes that are jammed, not of full ones.
    private static void fullChutes() {
        new Run("Waves", WAVE).make("addChute", 1, 1).make("addChute", 2, 5).make("assign", 0, 0).make("arrive", 0, 9)
                .make("pass", 2).due(1, "inChute", 0).make("arrive", 3, 2).due(1, "startWave").due(0, "chuteFor", 3)
                .due(0, "pass", 2).due(1, "positionOf", 1);
    }

    // The parcels arrive in the order 0, 1, 2; the chute is jammed when 0 is at its position, so 0 drops last.
    private static void orderInTruck() {
        new Run("Trucks and seals", "A truck takes all parcels that are in a chute, in the order in which they dropped")
                .make("setLoop", 4).make("addChute", 1, 30).make("assign", 0, 0).make("jam", 1)
                .times(3, "arrive", 0, 1).make("pass", 2).make("free", 1).due(2, "pass", 2).due(1, "pass", 2)
                .make("dispatch", 0).due(1, "parcelIn", 0, 0).due(2, "parcelIn", 0, 1).due(0, "parcelIn", 0, 2)
                .noSuch("parcelIn", 0, 3).due(0, "inChute", 0);
        Run x = new Run("Trucks and seals", "A truck takes all parcels that are in a chute").make("setLoop", 4)
                .make("addChute", 1, 30).make("assign", 0, 0).times(31, "arrive", 0, 1).make("pass", 32)
                .make("dispatch", 0).due(0, "inChute", 0).due('t', "stateOf", 29).due('l', "stateOf", 30);
        for (int i = 0; i < 30; i++) {
            x.due(i, "parcelIn", 0, i);
        }
        x.noSuch("parcelIn", 0, 30);
    }

    // Almost as many trucks as 512 calls can fill: each takes one parcel, and six parcels drop at the same tick.
    private static void trucksFromZero() {
        Run x = new Run("Trucks and seals", "trucks are numbered from 0.").make("setLoop", 8);
        for (int i = 0; i < 6; i++) {
            x.make("addChute", 6 - i, 1).make("assign", i, i);
        }
        x.outOfBounds("sealOfTruck", 0);
        for (int row = 0; row < 36; row++) {
            for (int i = 0; i < 6; i++) {
                x.make("arrive", i, 1);
            }
            x.due(6, "pass", 7);
            for (int i = 0; i < 6; i++) {
                x.make("dispatch", 5 - i);
            }
        }
        x.due(216, "trucks").due(5, "parcelIn", 0, 0).due(210, "parcelIn", 215, 0).due(0, "truckOf", 5)
                .due(215, "truckOf", 210).due(216L, "shipped").due(2110211, "sealOfTruck", 215);
        x.due(IndexOutOfBoundsException.class, "sealOfTruck", 216);
    }

    private static void sealOfNone() {
        new Run("Trucks and seals", SEAL).make("addChute", 1, 1).due(0, "seal", 0).due(0, "sealByParcels", 0);
    }

    // The parcels 40 to 58 make the first sum 950 and the second one 8930; with the parcel 92 the sums are 1043 and
    // 9973, with the one before it 1042 and 9972, with the one behind it 1044 and 9974. (The first sum can't come to
    // 9973: a chute holds 30 parcels, and the numbers plus 1 of the last 30 make 8565.)
    private static void secondSumAtDivisor() {
        int[] parcels = {91, 92, 93};
        int[] seals = {99721042, 1043, 11044};
        for (int i = 0; i < parcels.length; i++) {
            Run x = new Run("Trucks and seals", SEAL).make("setLoop", 4).make("setLimit", 1).make("addChute", 1, 30)
                    .make("assign", 0, 0).times(40, "arrive", 1, 1).times(19, "arrive", 0, 1)
                    .times(parcels[i] - 59, "arrive", 1, 1).make("pass", 200).make("pass", 200);
            x.due(89300950, "seal", 0).due(89300950, "sealByParcels", 0);
            x.make("arrive", 0, 1).due(1, "pass", 2).due('c', "stateOf", parcels[i]);
            x.due(seals[i], "seal", 0).due(seals[i], "sealByParcels", 0).due(seals[i], "dispatch", 0)
                    .due(seals[i], "sealOfTruck", 0);
        }
    }

    // The parcels 1 and 0 in this order: the sums are 2 and 2, then 3 and 5; 0 and 1 would make it 3 and 4.
    private static void orderInSeal() {
        new Run("Trucks and seals", SEAL).make("setLoop", 4).make("addChute", 1, 30).make("assign", 0, 0)
                .make("jam", 1).times(2, "arrive", 0, 1).make("pass", 2).make("free", 1)
                .due(1, "pass", 1).due(20002, "seal", 0).due(20002, "sealByParcels", 0)
                .due(1, "pass", 3).due(50003, "seal", 0).due(50003, "sealByParcels", 0)
                .due(50003, "dispatch", 0).due(50003, "sealOfTruck", 0);
    }

    private static void sealIsKeptUp() {
        new Run("Trucks and seals", "The seal of a chute is that of the parcels in it; it is kept up as they drop.")
                .make("setLoop", 4).make("addChute", 1, 1).make("addChute", 2, 1).make("assign", 0, 0)
                .make("assign", 1, 1).times(2, "arrive", 0, 1).make("pass", 1).due(0, "seal", 0)
                .make("pass", 1).due(10001, "seal", 0).make("pass", 1).due(10001, "seal", 0).due(0, "seal", 1)
                .make("dispatch", 0).due(0, "seal", 0).due(0, "sealByParcels", 0)
                .make("pass", 3).due(0, "seal", 0).make("pass", 1).due(20002, "seal", 0)
                .due(20002, "sealByParcels", 0).due(0, "seal", 1);
    }
}
