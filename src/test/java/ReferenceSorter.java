import java.util.ArrayList;
import java.util.Collections;
import java.util.HashMap;
import java.util.List;
import java.util.Map;
import java.util.NoSuchElementException;

/** The document once more, in its plainest form and with the Java library: what RandomRunsTest compares with. */
final class ReferenceSorter {
    private static final class Parcel {
        int number;
        int route;
        int weight;
        int rounds;
        char state = 'w';
        int truck = -1;
    }

    private static final class Station {
        char kind;
        int position;
        int capacity;
        boolean jammed;
        List<Parcel> parcels = new ArrayList<>();
    }

    private List<Parcel> all = new ArrayList<>();
    private List<Parcel> queue = new ArrayList<>();
    private List<Parcel> trays = new ArrayList<>(Collections.nCopies(12, (Parcel) null));
    private List<Station> chutes = new ArrayList<>();
    private Station loader = new Station();
    private Station overflow = new Station();
    private Map<Integer, Integer> routes = new HashMap<>();
    private List<List<Parcel>> trucks = new ArrayList<>();
    private int limit = 2;
    private long ticks = 0;

    ReferenceSorter() {
        loader.kind = 'i';
        overflow.kind = 'o';
        overflow.position = 11;
    }

    private static void unless(boolean holds, RuntimeException thrown) {
        if (!holds) {
            throw thrown;
        }
    }

    private static void between(int number, int least, int most) {
        unless(number >= least && number <= most, new IllegalArgumentException());
    }

    private List<Station> stations() {
        List<Station> stations = new ArrayList<>(chutes);
        stations.add(loader);
        stations.add(overflow);
        return stations;
    }

    private Station station(int position) {
        for (Station station : stations()) {
            if (station.position == position) {
                return station;
            }
        }
        return null;
    }

    private Station chute(int chute) {
        unless(chute >= 0 && chute < chutes.size(), new IndexOutOfBoundsException());
        return chutes.get(chute);
    }

    private Parcel parcel(int parcel) {
        unless(parcel >= 0 && parcel < all.size(), new NoSuchElementException());
        return all.get(parcel);
    }

    private List<Parcel> truck(int truck) {
        unless(truck >= 0 && truck < trucks.size(), new IndexOutOfBoundsException());
        return trucks.get(truck);
    }

    private int count(String states) {
        int count = 0;
        for (Parcel parcel : all) {
            count += states.indexOf(parcel.state) >= 0 ? 1 : 0;
        }
        return count;
    }

    private int jams() {
        int jams = 0;
        for (Station station : stations()) {
            jams += station.jammed ? 1 : 0;
        }
        return jams;
    }

    private static int sealOf(List<Parcel> parcels) {
        int first = 0;
        int second = 0;
        for (Parcel parcel : parcels) {
            first = (first + parcel.number + 1) % 9973;
            second = (second + first) % 9973;
        }
        return 10000 * second + first;
    }

    private ReferenceSorter copy() {
        ReferenceSorter copy = new ReferenceSorter();
        Map<Parcel, Parcel> copies = new HashMap<>();
        for (Parcel parcel : all) {
            Parcel twin = new Parcel();
            twin.number = parcel.number;
            twin.route = parcel.route;
            twin.weight = parcel.weight;
            twin.rounds = parcel.rounds;
            twin.state = parcel.state;
            copies.put(parcel, twin);
            copy.all.add(twin);
        }
        copy.queue = twins(queue, copies);
        copy.trays = twins(trays, copies);
        copy.loader = twin(loader, copies);
        copy.overflow = twin(overflow, copies);
        for (Station chute : chutes) {
            copy.chutes.add(twin(chute, copies));
        }
        copy.routes = new HashMap<>(routes);
        copy.limit = limit;
        return copy;
    }

    private static Station twin(Station station, Map<Parcel, Parcel> copies) {
        Station twin = new Station();
        twin.kind = station.kind;
        twin.position = station.position;
        twin.capacity = station.capacity;
        twin.jammed = station.jammed;
        twin.parcels = twins(station.parcels, copies);
        return twin;
    }

    private static List<Parcel> twins(List<Parcel> parcels, Map<Parcel, Parcel> copies) {
        List<Parcel> twins = new ArrayList<>();
        for (Parcel parcel : parcels) {
            twins.add(copies.get(parcel));
        }
        return twins;
    }

    public int setLoop(int number) {
        between(number, 4, 20);
        unless(chutes.isEmpty() && all.isEmpty(), new IllegalStateException());
        int before = trays.size();
        trays = new ArrayList<>(Collections.nCopies(number, (Parcel) null));
        overflow.position = number - 1;
        return before;
    }

    public int addChute(int position, int capacity) {
        between(position, 1, trays.size() - 2);
        between(capacity, 1, 30);
        unless(station(position) == null, new UnsupportedOperationException());
        unless(chutes.size() < 6, new IllegalStateException());
        Station chute = new Station();
        chute.kind = 'c';
        chute.position = position;
        chute.capacity = capacity;
        chutes.add(chute);
        return chutes.size() - 1;
    }

    public int setCapacity(int number, int capacity) {
        Station chute = chute(number);
        between(capacity, 1, 30);
        unless(chute.parcels.size() <= capacity, new IllegalStateException());
        int before = chute.capacity;
        chute.capacity = capacity;
        return before;
    }

    public int setLimit(int rounds) {
        between(rounds, 1, 9);
        int before = limit;
        limit = rounds;
        return before;
    }

    public int jam(int position) {
        unless(station(position) != null, new NoSuchElementException());
        unless(!station(position).jammed, new IllegalStateException());
        station(position).jammed = true;
        return jams();
    }

    public int free(int position) {
        unless(station(position) != null, new NoSuchElementException());
        unless(station(position).jammed, new IllegalStateException());
        station(position).jammed = false;
        return jams();
    }

    public char stationAt(int position) {
        between(position, 0, trays.size() - 1);
        return station(position) == null ? '-' : station(position).kind;
    }

    public int arrive(int route, int weight) {
        between(route, 0, 7);
        between(weight, 1, 9);
        unless(all.size() < 300, new IllegalStateException());
        Parcel parcel = new Parcel();
        parcel.number = all.size();
        parcel.route = route;
        parcel.weight = weight;
        all.add(parcel);
        queue.add(parcel);
        return parcel.number;
    }

    public int pass(int number) {
        between(number, 1, 200);
        int before = count("cto");
        for (int i = 0; i < number; i++) {
            passOne();
        }
        return count("cto") - before;
    }

    private void passOne() {
        ticks++;
        Collections.rotate(trays, 1);
        if (trays.get(0) != null) {
            trays.get(0).rounds++;
        }
        for (Station station : stations()) {
            if (!station.jammed) {
                serve(station, trays.get(station.position));
            }
        }
    }

    private void serve(Station station, Parcel parcel) {
        if (station == loader) {
            if (parcel == null && !queue.isEmpty()) {
                Parcel first = queue.remove(0);
                first.state = 'l';
                trays.set(0, first);
            }
        } else if (parcel != null && takes(station, parcel)) {
            parcel.state = station.kind;
            station.parcels.add(parcel);
            trays.set(station.position, null);
        }
    }

    private boolean takes(Station station, Parcel parcel) {
        if (station == overflow) {
            return parcel.rounds >= limit;
        }
        Integer chute = routes.get(parcel.route);
        return chute != null && chutes.get(chute) == station && station.parcels.size() < station.capacity;
    }

    public long tick() {
        return ticks;
    }

    public char stateOf(int parcel) {
        return parcel(parcel).state;
    }

    public int positionOf(int parcel) {
        unless(parcel(parcel).state == 'l', new IllegalStateException());
        return trays.indexOf(parcel(parcel));
    }

    public int roundsOf(int parcel) {
        unless(parcel(parcel).state != 'w', new IllegalStateException());
        return parcel(parcel).rounds;
    }

    public int trayAt(int position) {
        between(position, 0, trays.size() - 1);
        unless(trays.get(position) != null, new NoSuchElementException());
        return trays.get(position).number;
    }

    public int waiting() {
        return count("w");
    }

    public int onLoop() {
        return count("l");
    }

    public int overflowed() {
        return count("o");
    }

    public int leavingAhead(int number) {
        return copy().pass(number);
    }

    public int leavingByTrays(int number) {
        return copy().pass(number);
    }

    public int startWave() {
        List<Integer> usable = new ArrayList<>();
        for (int i = 0; i < chutes.size(); i++) {
            if (!chutes.get(i).jammed) {
                usable.add(i);
            }
        }
        unless(!usable.isEmpty(), new IllegalStateException());
        List<Integer> order = new ArrayList<>();
        for (int route = 0; route < 8; route++) {
            if (load(route) > 0) {
                order.add(route);
            }
        }
        order.sort((a, b) -> load(b) != load(a) ? load(b) - load(a) : a - b);
        routes.clear();
        for (int route : order) {
            usable.sort((a, b) -> sum(a) != sum(b) ? sum(a) - sum(b) : a - b);
            routes.put(route, usable.get(0));
        }
        return order.size();
    }

    private int sum(int chute) {
        int sum = 0;
        for (Map.Entry<Integer, Integer> entry : routes.entrySet()) {
            sum += entry.getValue() == chute ? load(entry.getKey()) : 0;
        }
        return sum;
    }

    public int assign(int route, int chute) {
        between(route, 0, 7);
        chute(chute);
        Integer before = routes.put(route, chute);
        return before == null ? -1 : before;
    }

    public int unassign(int route) {
        between(route, 0, 7);
        unless(routes.containsKey(route), new IllegalStateException());
        return routes.remove(route);
    }

    public int chuteFor(int route) {
        between(route, 0, 7);
        unless(routes.containsKey(route), new NoSuchElementException());
        return routes.get(route);
    }

    public int load(int route) {
        between(route, 0, 7);
        int sum = 0;
        for (Parcel parcel : all) {
            sum += parcel.route == route && "wl".indexOf(parcel.state) >= 0 ? parcel.weight : 0;
        }
        return sum;
    }

    public int inChute(int chute) {
        return chute(chute).parcels.size();
    }

    public int seal(int chute) {
        return sealOf(chute(chute).parcels);
    }

    public int sealByParcels(int chute) {
        return sealOf(chute(chute).parcels);
    }

    public int dispatch(int chute) {
        List<Parcel> parcels = chute(chute).parcels;
        unless(!parcels.isEmpty(), new IllegalStateException());
        for (Parcel parcel : parcels) {
            parcel.state = 't';
            parcel.truck = trucks.size();
        }
        trucks.add(parcels);
        chute(chute).parcels = new ArrayList<>();
        return sealOf(parcels);
    }

    public int trucks() {
        return trucks.size();
    }

    public int sealOfTruck(int truck) {
        return sealOf(truck(truck));
    }

    public int parcelIn(int truck, int index) {
        List<Parcel> parcels = truck(truck);
        unless(index >= 0 && index < parcels.size(), new NoSuchElementException());
        return parcels.get(index).number;
    }

    public int truckOf(int parcel) {
        unless(parcel(parcel).state == 't', new IllegalStateException());
        return parcel(parcel).truck;
    }

    public long shipped() {
        long sum = 0;
        for (Parcel parcel : all) {
            sum += parcel.state == 't' ? parcel.weight : 0;
        }
        return sum;
    }

    public double meanRounds() {
        unless(count("cto") > 0, new ArithmeticException());
        long sum = 0;
        for (Parcel parcel : all) {
            sum += "cto".indexOf(parcel.state) >= 0 ? parcel.rounds : 0;
        }
        return (double) sum / (double) count("cto");
    }

    public float overflowShare() {
        unless(count("cto") > 0, new ArithmeticException());
        return (float) count("o") / (float) count("cto");
    }

    public boolean isOnce() {
        return true;
    }
}
