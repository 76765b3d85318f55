import java.util.ArrayList;
import java.util.List;

/** Lists of calls that show together all that a sorter holds, asked at once or by what it does next. */
final class Probes {
    static final List<List<Call>> ALL = List.of(counts(), parcels(), settings(), nextTicks());

    private Probes() {
    }

    private static void each(List<Call> calls, String name, int from, int to) {
        for (int i = from; i <= to; i++) {
            calls.add(new Call(name, i));
        }
    }

    private static List<Call> counts() {
        List<Call> calls = new ArrayList<>();
        for (String name : new String[] {"tick", "waiting", "onLoop", "overflowed", "trucks", "shipped", "meanRounds",
            "overflowShare", "isOnce"}) {
            calls.add(new Call(name));
        }
        for (int ticks : new int[] {1, 2, 60, 200}) {
            calls.add(new Call("leavingAhead", ticks));
            calls.add(new Call("leavingByTrays", ticks));
        }
        each(calls, "stationAt", 0, 20);
        each(calls, "trayAt", 0, 20);
        each(calls, "load", 0, 7);
        each(calls, "chuteFor", 0, 7);
        each(calls, "inChute", 0, 6);
        each(calls, "seal", 0, 6);
        each(calls, "sealByParcels", 0, 6);
        return calls;
    }

    private static List<Call> parcels() {
        List<Call> calls = new ArrayList<>();
        for (String name : new String[] {"stateOf", "positionOf", "roundsOf", "truckOf"}) {
            each(calls, name, 0, 19);
            each(calls, name, 298, 300);
        }
        each(calls, "sealOfTruck", 0, 3);
        for (int truck = 0; truck < 3; truck++) {
            for (int index = 0; index < 4; index++) {
                calls.add(new Call("parcelIn", truck, index));
            }
        }
        return calls;
    }

    // The answers of setLimit and setCapacity are the numbers before, those of jam and free tell what was jammed.
    private static List<Call> settings() {
        List<Call> calls = new ArrayList<>();
        calls.add(new Call("setLimit", 9));
        for (int chute = 0; chute < 6; chute++) {
            calls.add(new Call("setCapacity", chute, 30));
        }
        each(calls, "jam", 0, 19);
        each(calls, "unassign", 0, 7);
        each(calls, "free", 0, 19);
        for (int position = 1; position < 8; position++) {
            calls.add(new Call("addChute", position, 1));
        }
        calls.add(new Call("arrive", 0, 1));
        calls.add(new Call("setLoop", 5));
        return calls;
    }

    private static List<Call> nextTicks() {
        List<Call> calls = new ArrayList<>();
        calls.add(new Call("pass", 1));
        calls.add(new Call("startWave"));
        each(calls, "chuteFor", 0, 7);
        each(calls, "dispatch", 0, 5);
        calls.add(new Call("pass", 13));
        each(calls, "dispatch", 0, 5);
        calls.add(new Call("pass", 200));
        calls.addAll(counts());
        return calls;
    }
}
