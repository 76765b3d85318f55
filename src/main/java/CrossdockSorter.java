import java.util.NoSuchElementException;

/** A sorter of parcels on a loop of trays; ../shared/DOC.md says what it promises. */
public final class CrossdockSorter {
    private static final int NONE = -1;
    private static final int MIN_TRAYS = 4;
    private static final int MAX_TRAYS = 20;
    private static final int FIRST_TRAYS = 12;
    private static final int MAX_CHUTES = 6;
    private static final int MAX_CAPACITY = 30;
    private static final int MAX_PARCELS = 300;
    private static final int ROUTES = 8;
    private static final int MAX_WEIGHT = 9;
    private static final int FIRST_LIMIT = 2;
    private static final int MAX_LIMIT = 9;
    private static final int MAX_TICKS = 200;
    private static final int TICKS_THAT_ARE_COMPARED = 60;
    private static final int SEAL_DIVISOR = 9973;
    private static final int SEAL_FACTOR = 10000;

    private static final char LOADER = 'i';
    private static final char CHUTE = 'c';
    private static final char OVERFLOW = 'o';
    private static final char NOTHING = '-';

    private static final char WAITS = 'w';
    private static final char ON_LOOP = 'l';
    private static final char IN_CHUTE = 'c';
    private static final char IN_TRUCK = 't';
    private static final char IN_OVERFLOW = 'o';

    private final Parcels parcels;
    private final Belt belt;
    private final Stations stations;
    private final Wave wave;
    private final Forecast forecast;
    private final Row overflow;
    private final Fleet fleet;
    private final int[] timesSeen;
    private long ticksPassed;

    public CrossdockSorter() {
        parcels = new Parcels();
        belt = new Belt();
        stations = new Stations();
        wave = new Wave(stations, parcels);
        forecast = new Forecast(stations, parcels, belt);
        overflow = new Row(MAX_PARCELS);
        fleet = new Fleet();
        timesSeen = new int[MAX_PARCELS];
    }

    // The loop and its stations.

    public int setLoop(int trays) throws IllegalArgumentException, IllegalStateException {
        if (trays < MIN_TRAYS || trays > MAX_TRAYS) {
            throw new IllegalArgumentException();
        }
        if (stations.chutes > 0 || parcels.arrived > 0) {
            throw new IllegalStateException();
        }
        int before = belt.trays;
        belt.makeEmpty(trays);
        stations.last = trays - 1;
        return before;
    }

    public int addChute(int position, int capacity)
            throws IllegalArgumentException, UnsupportedOperationException, IllegalStateException {
        if (position < 1 || position >= stations.last || !isCapacity(capacity)) {
            throw new IllegalArgumentException();
        }
        if (stations.chuteAt(position) != null) {
            throw new UnsupportedOperationException();
        }
        if (stations.chutes >= MAX_CHUTES) {
            throw new IllegalStateException();
        }
        return stations.build(position, capacity);
    }

    public int setCapacity(int chute, int capacity)
            throws IndexOutOfBoundsException, IllegalArgumentException, IllegalStateException {
        Chute changed = requireChute(chute);
        if (!isCapacity(capacity)) {
            throw new IllegalArgumentException();
        }
        if (changed.content.count > capacity) {
            throw new IllegalStateException();
        }
        int before = changed.capacity;
        changed.capacity = capacity;
        return before;
    }

    public int setLimit(int rounds) throws IllegalArgumentException {
        if (rounds < 1 || rounds > MAX_LIMIT) {
            throw new IllegalArgumentException();
        }
        int before = stations.limit;
        stations.limit = rounds;
        return before;
    }

    public int jam(int position) throws NoSuchElementException, IllegalStateException {
        requireStation(position);
        if (stations.isJammed(position)) {
            throw new IllegalStateException();
        }
        stations.setJammed(position, true);
        return stations.jams();
    }

    public int free(int position) throws NoSuchElementException, IllegalStateException {
        requireStation(position);
        if (!stations.isJammed(position)) {
            throw new IllegalStateException();
        }
        stations.setJammed(position, false);
        return stations.jams();
    }

    public char stationAt(int position) throws IllegalArgumentException {
        requirePosition(position);
        return stations.kindAt(position);
    }

    // Parcels and ticks.

    public int arrive(int route, int weight) throws IllegalArgumentException, IllegalStateException {
        if (!isRoute(route) || weight < 1 || weight > MAX_WEIGHT) {
            throw new IllegalArgumentException();
        }
        if (parcels.arrived >= MAX_PARCELS) {
            throw new IllegalStateException();
        }
        return parcels.add(route, weight);
    }

    public int pass(int ticks) throws IllegalArgumentException {
        requireTicks(ticks);
        int left = 0;
        for (int i = 0; i < ticks; i++) {
            left += passOneTick();
        }
        return left;
    }

    public long tick() {
        return ticksPassed;
    }

    public char stateOf(int parcel) throws NoSuchElementException {
        requireParcel(parcel);
        return parcels.stateAt(parcel);
    }

    public int positionOf(int parcel) throws NoSuchElementException, IllegalStateException {
        requireParcel(parcel);
        int position = belt.positionWith(parcel);
        if (position == NONE) {
            throw new IllegalStateException();
        }
        return position;
    }

    public int roundsOf(int parcel) throws NoSuchElementException, IllegalStateException {
        requireParcel(parcel);
        char state = parcels.stateAt(parcel);
        if (state == WAITS) {
            throw new IllegalStateException();
        }
        if (state == ON_LOOP) {
            return belt.roundsAt(belt.positionWith(parcel));
        }
        return parcels.lastRoundsAt(parcel);
    }

    public int trayAt(int position) throws IllegalArgumentException, NoSuchElementException {
        requirePosition(position);
        int parcel = belt.parcelAt(position);
        if (parcel == NONE) {
            throw new NoSuchElementException();
        }
        return parcel;
    }

    public int waiting() {
        return parcels.arrived - parcels.loaded;
    }

    public int onLoop() {
        return parcels.loaded - parcels.left;
    }

    public int overflowed() {
        return overflow.count;
    }

    public int leavingAhead(int ticks) throws IllegalArgumentException {
        requireTicks(ticks);
        return forecast.byOrigin(ticks);
    }

    public int leavingByTrays(int ticks) throws IllegalArgumentException {
        requireTicks(ticks);
        return forecast.byTrays(ticks);
    }

    // Routes and waves.

    public int startWave() throws IllegalStateException {
        if (!stations.hasChuteNotJammed()) {
            throw new IllegalStateException();
        }
        return wave.assignAnew();
    }

    public int assign(int route, int chute) throws IllegalArgumentException, IndexOutOfBoundsException {
        requireRoute(route);
        requireChute(chute);
        int before = stations.chuteOfRoute(route);
        stations.send(route, chute);
        return before;
    }

    public int unassign(int route) throws IllegalArgumentException, IllegalStateException {
        requireRoute(route);
        int before = stations.chuteOfRoute(route);
        if (before == NONE) {
            throw new IllegalStateException();
        }
        stations.send(route, NONE);
        return before;
    }

    public int chuteFor(int route) throws IllegalArgumentException, NoSuchElementException {
        requireRoute(route);
        int chute = stations.chuteOfRoute(route);
        if (chute == NONE) {
            throw new NoSuchElementException();
        }
        return chute;
    }

    public int load(int route) throws IllegalArgumentException {
        requireRoute(route);
        return parcels.loadOf(route);
    }

    // Chutes, trucks, seals.

    public int inChute(int chute) throws IndexOutOfBoundsException {
        return requireChute(chute).content.count;
    }

    public int seal(int chute) throws IndexOutOfBoundsException {
        return requireChute(chute).keptSeal();
    }

    public int sealByParcels(int chute) throws IndexOutOfBoundsException {
        return requireChute(chute).sealOfContent();
    }

    public int dispatch(int chute) throws IndexOutOfBoundsException, IllegalStateException {
        Chute emptied = requireChute(chute);
        if (emptied.content.count == 0) {
            throw new IllegalStateException();
        }
        int seal = emptied.keptSeal();
        int truck = fleet.take(emptied.content);
        for (int i = 0; i < emptied.content.count; i++) {
            parcels.enterTruck(emptied.content.at(i), truck);
        }
        emptied.clear();
        return seal;
    }

    public int trucks() {
        return fleet.count;
    }

    public int sealOfTruck(int truck) throws IndexOutOfBoundsException {
        requireTruck(truck);
        return fleet.sealOf(truck);
    }

    public int parcelIn(int truck, int index) throws IndexOutOfBoundsException, NoSuchElementException {
        requireTruck(truck);
        if (index < 0 || index >= fleet.sizeOf(truck)) {
            throw new NoSuchElementException();
        }
        return fleet.parcelAt(truck, index);
    }

    public int truckOf(int parcel) throws NoSuchElementException, IllegalStateException {
        requireParcel(parcel);
        if (parcels.stateAt(parcel) != IN_TRUCK) {
            throw new IllegalStateException();
        }
        return parcels.truckAt(parcel);
    }

    public long shipped() {
        return parcels.weightShipped;
    }

    public double meanRounds() throws ArithmeticException {
        requireSomeLeft();
        return (double) parcels.roundsOfLeft / (double) parcels.left;
    }

    public float overflowShare() throws ArithmeticException {
        requireSomeLeft();
        return (float) overflow.count / (float) parcels.left;
    }

    public boolean isOnce() {
        return eachParcelIsOnce()
                && stations.sealsAgree()
                && forecast.byOrigin(TICKS_THAT_ARE_COMPARED) == forecast.byTrays(TICKS_THAT_ARE_COMPARED);
    }

    // What the arguments must be.

    private static boolean isCapacity(int capacity) {
        return capacity >= 1 && capacity <= MAX_CAPACITY;
    }

    private static boolean isRoute(int route) {
        return route >= 0 && route < ROUTES;
    }

    private static void requireRoute(int route) {
        if (!isRoute(route)) {
            throw new IllegalArgumentException();
        }
    }

    private static void requireTicks(int ticks) {
        if (ticks < 1 || ticks > MAX_TICKS) {
            throw new IllegalArgumentException();
        }
    }

    private void requirePosition(int position) {
        if (!belt.has(position)) {
            throw new IllegalArgumentException();
        }
    }

    private void requireStation(int position) {
        if (stations.kindAt(position) == NOTHING) {
            throw new NoSuchElementException();
        }
    }

    private void requireParcel(int parcel) {
        if (!parcels.has(parcel)) {
            throw new NoSuchElementException();
        }
    }

    private Chute requireChute(int chute) {
        Chute found = stations.chute(chute);
        if (found == null) {
            throw new IndexOutOfBoundsException();
        }
        return found;
    }

    private void requireTruck(int truck) {
        if (!fleet.has(truck)) {
            throw new IndexOutOfBoundsException();
        }
    }

    private void requireSomeLeft() {
        if (parcels.left <= 0) {
            throw new ArithmeticException();
        }
    }

    // A tick.

    private int passOneTick() {
        ticksPassed++;
        belt.move();
        if (stations.loaderPuts(belt.parcelAt(0), parcels.loaded, parcels.arrived)) {
            belt.put(0, parcels.loadFirst());
        }
        int left = 0;
        for (int i = 0; i < stations.chutes; i++) {
            left += dropInto(i);
        }
        return left + dropIntoOverflow();
    }

    private int dropInto(int number) {
        Chute chute = stations.chute(number);
        if (chute == null) {
            return 0;
        }
        int parcel = belt.parcelAt(chute.position);
        if (!stations.chuteTakes(number, parcels.routeAt(parcel), chute.content.count)) {
            return 0;
        }
        parcels.leave(parcel, IN_CHUTE, belt.roundsAt(chute.position));
        belt.takeFrom(chute.position);
        chute.drop(parcel);
        return 1;
    }

    private int dropIntoOverflow() {
        int parcel = belt.parcelAt(stations.last);
        int rounds = belt.roundsAt(stations.last);
        if (!stations.overflowTakes(parcel, rounds)) {
            return 0;
        }
        parcels.leave(parcel, IN_OVERFLOW, rounds);
        belt.takeFrom(stations.last);
        overflow.add(parcel);
        return 1;
    }

    // Whether each parcel is once.

    private boolean eachParcelIsOnce() {
        for (int i = 0; i < timesSeen.length; i++) {
            timesSeen[i] = 0;
        }
        for (int parcel = parcels.loaded; parcel < parcels.arrived; parcel++) {
            see(parcel);
        }
        for (int position = 0; position < belt.trays; position++) {
            see(belt.parcelAt(position));
        }
        for (int i = 0; i < stations.chutes; i++) {
            Chute chute = stations.chute(i);
            if (chute != null) {
                seeAll(chute.content);
            }
        }
        seeAll(fleet.content);
        seeAll(overflow);
        for (int i = 0; i < timesSeen.length; i++) {
            if (timesSeen[i] != (parcels.has(i) ? 1 : 0)) {
                return false;
            }
        }
        return true;
    }

    private void seeAll(Row row) {
        for (int i = 0; i < row.count; i++) {
            see(row.at(i));
        }
    }

    private void see(int parcel) {
        if (parcel >= 0 && parcel < timesSeen.length) {
            timesSeen[parcel]++;
        }
    }

    /** Numbers of parcels in an order. */
    private static final class Row {
        final int[] numbers;
        int count;

        Row(int length) {
            numbers = new int[Math.max(length, 0)];
        }

        int at(int index) {
            return index >= 0 && index < count && index < numbers.length ? numbers[index] : NONE;
        }

        void add(int parcel) {
            if (count >= 0 && count < numbers.length) {
                numbers[count] = parcel;
                count++;
            }
        }

        int sealOf(int from, int end) {
            int first = 0;
            int second = 0;
            for (int i = from; i < end; i++) {
                first = (first + at(i) + 1) % SEAL_DIVISOR;
                second = (second + first) % SEAL_DIVISOR;
            }
            return SEAL_FACTOR * second + first;
        }
    }

    /** All parcels that have arrived. */
    private static final class Parcels {
        final int[] routes = new int[MAX_PARCELS];
        final int[] weights = new int[MAX_PARCELS];
        final char[] states = new char[MAX_PARCELS];
        final int[] lastRounds = new int[MAX_PARCELS];
        final int[] trucksTaken = new int[MAX_PARCELS];
        int arrived;
        /** The queue needs no row: parcels are loaded in the order of their numbers, so those from here on wait. */
        int loaded;
        int left;
        long roundsOfLeft;
        long weightShipped;

        boolean has(int parcel) {
            return parcel >= 0 && parcel < arrived && parcel < MAX_PARCELS;
        }

        int add(int route, int weight) {
            int parcel = arrived;
            if (parcel < 0 || parcel >= MAX_PARCELS) {
                return NONE;
            }
            routes[parcel] = route;
            weights[parcel] = weight;
            states[parcel] = WAITS;
            arrived++;
            return parcel;
        }

        int loadFirst() {
            int parcel = loaded;
            if (!has(parcel)) {
                return NONE;
            }
            states[parcel] = ON_LOOP;
            loaded++;
            return parcel;
        }

        void leave(int parcel, char state, int rounds) {
            if (has(parcel)) {
                states[parcel] = state;
                lastRounds[parcel] = rounds;
                left++;
                roundsOfLeft += rounds;
            }
        }

        void enterTruck(int parcel, int truck) {
            if (has(parcel)) {
                states[parcel] = IN_TRUCK;
                trucksTaken[parcel] = truck;
                weightShipped += weights[parcel];
            }
        }

        int routeAt(int parcel) {
            return has(parcel) ? routes[parcel] : NONE;
        }

        char stateAt(int parcel) {
            return has(parcel) ? states[parcel] : NOTHING;
        }

        int lastRoundsAt(int parcel) {
            return has(parcel) ? lastRounds[parcel] : 0;
        }

        int truckAt(int parcel) {
            return has(parcel) ? trucksTaken[parcel] : NONE;
        }

        int loadOf(int route) {
            int sum = 0;
            for (int i = 0; i < arrived && i < MAX_PARCELS; i++) {
                boolean counts = states[i] == WAITS || states[i] == ON_LOOP;
                if (counts && routes[i] == route) {
                    sum += weights[i];
                }
            }
            return sum;
        }
    }

    /** The loop: its trays stay in their slots, and the slot that is at the position 0 changes. */
    private static final class Belt {
        final int[] parcelsOn = new int[MAX_TRAYS];
        final int[] roundsOn = new int[MAX_TRAYS];
        int trays;
        int origin;

        Belt() {
            makeEmpty(FIRST_TRAYS);
        }

        void makeEmpty(int number) {
            trays = Math.max(1, Math.min(number, MAX_TRAYS));
            origin = 0;
            for (int i = 0; i < MAX_TRAYS; i++) {
                parcelsOn[i] = NONE;
                roundsOn[i] = 0;
            }
        }

        void copyFrom(Belt other) {
            trays = other.trays;
            origin = other.origin;
            for (int i = 0; i < MAX_TRAYS; i++) {
                parcelsOn[i] = other.parcelsOn[i];
                roundsOn[i] = other.roundsOn[i];
            }
        }

        boolean has(int position) {
            return position >= 0 && position < trays;
        }

        int slotOf(int position) {
            if (!has(position)) {
                return NONE;
            }
            int slot = origin + position;
            if (slot >= trays) {
                slot -= trays;
            }
            return slot < MAX_TRAYS ? slot : NONE;
        }

        void move() {
            origin = origin > 0 ? origin - 1 : trays - 1;
            int slot = slotOf(0);
            if (slot >= 0 && parcelsOn[slot] != NONE) {
                roundsOn[slot]++;
            }
        }

        int parcelAt(int position) {
            int slot = slotOf(position);
            return slot >= 0 ? parcelsOn[slot] : NONE;
        }

        int roundsAt(int position) {
            int slot = slotOf(position);
            return slot >= 0 ? roundsOn[slot] : 0;
        }

        int positionWith(int parcel) {
            for (int position = 0; position < trays; position++) {
                if (parcelAt(position) == parcel) {
                    return position;
                }
            }
            return NONE;
        }

        void put(int position, int parcel) {
            int slot = slotOf(position);
            if (slot >= 0) {
                parcelsOn[slot] = parcel;
                roundsOn[slot] = 0;
            }
        }

        void takeFrom(int position) {
            put(position, NONE);
        }
    }

    /** A chute; its seal is kept up by two sums as parcels drop. */
    private static final class Chute {
        final int position;
        final Row content;
        int capacity;
        boolean jammed;
        int firstSum;
        int secondSum;

        Chute(int position, int capacity) {
            this.position = position;
            this.capacity = capacity;
            content = new Row(MAX_CAPACITY);
        }

        void drop(int parcel) {
            content.add(parcel);
            firstSum = (firstSum + parcel + 1) % SEAL_DIVISOR;
            secondSum = (secondSum + firstSum) % SEAL_DIVISOR;
        }

        void clear() {
            content.count = 0;
            firstSum = 0;
            secondSum = 0;
        }

        int keptSeal() {
            return SEAL_FACTOR * secondSum + firstSum;
        }

        int sealOfContent() {
            return content.sealOf(0, content.count);
        }
    }

    /** The stations, what they are told, and by which rules they serve a tray. */
    private static final class Stations {
        final Chute[] built = new Chute[MAX_CHUTES];
        final int[] chutesOfRoutes = new int[ROUTES];
        int chutes;
        int last;
        int limit;
        boolean loaderJammed;
        boolean overflowJammed;

        Stations() {
            last = FIRST_TRAYS - 1;
            limit = FIRST_LIMIT;
            for (int route = 0; route < ROUTES; route++) {
                chutesOfRoutes[route] = NONE;
            }
        }

        int build(int position, int capacity) {
            int number = chutes;
            if (number < 0 || number >= MAX_CHUTES) {
                return NONE;
            }
            built[number] = new Chute(position, capacity);
            chutes++;
            return number;
        }

        Chute chute(int number) {
            return number >= 0 && number < chutes && number < MAX_CHUTES ? built[number] : null;
        }

        int numberAt(int position) {
            for (int i = 0; i < chutes; i++) {
                Chute chute = chute(i);
                if (chute != null && chute.position == position) {
                    return i;
                }
            }
            return NONE;
        }

        Chute chuteAt(int position) {
            return chute(numberAt(position));
        }

        char kindAt(int position) {
            if (position == 0) {
                return LOADER;
            }
            if (position == last) {
                return OVERFLOW;
            }
            return chuteAt(position) != null ? CHUTE : NOTHING;
        }

        boolean isJammed(int position) {
            if (position == 0) {
                return loaderJammed;
            }
            if (position == last) {
                return overflowJammed;
            }
            Chute chute = chuteAt(position);
            return chute != null && chute.jammed;
        }

        void setJammed(int position, boolean jammed) {
            Chute chute = chuteAt(position);
            if (position == 0) {
                loaderJammed = jammed;
            } else if (position == last) {
                overflowJammed = jammed;
            } else if (chute != null) {
                chute.jammed = jammed;
            }
        }

        int jams() {
            int count = (loaderJammed ? 1 : 0) + (overflowJammed ? 1 : 0);
            for (int i = 0; i < chutes; i++) {
                Chute chute = chute(i);
                if (chute != null && chute.jammed) {
                    count++;
                }
            }
            return count;
        }

        boolean hasChuteNotJammed() {
            for (int i = 0; i < chutes; i++) {
                Chute chute = chute(i);
                if (chute != null && !chute.jammed) {
                    return true;
                }
            }
            return false;
        }

        int chuteOfRoute(int route) {
            return isRoute(route) ? chutesOfRoutes[route] : NONE;
        }

        void send(int route, int chute) {
            if (isRoute(route)) {
                chutesOfRoutes[route] = chute;
            }
        }

        boolean loaderPuts(int parcelOnTray, int firstOfQueue, int arrived) {
            return !loaderJammed && parcelOnTray == NONE && firstOfQueue < arrived;
        }

        boolean chuteTakes(int number, int route, int parcelsInIt) {
            Chute chute = chute(number);
            return chute != null && !chute.jammed && parcelsInIt < chute.capacity && chuteOfRoute(route) == number;
        }

        boolean overflowTakes(int parcelOnTray, int rounds) {
            return !overflowJammed && parcelOnTray != NONE && rounds >= limit;
        }

        boolean sealsAgree() {
            for (int i = 0; i < chutes; i++) {
                Chute chute = chute(i);
                if (chute != null && chute.keptSeal() != chute.sealOfContent()) {
                    return false;
                }
            }
            return true;
        }
    }

    /** Assigns the routes with a load to the chutes. */
    private static final class Wave {
        final Stations stations;
        final Parcels parcels;
        final int[] loadsLeft = new int[ROUTES];
        final int[] sums = new int[MAX_CHUTES];

        Wave(Stations stations, Parcels parcels) {
            this.stations = stations;
            this.parcels = parcels;
        }

        int assignAnew() {
            for (int i = 0; i < MAX_CHUTES; i++) {
                sums[i] = 0;
            }
            for (int route = 0; route < ROUTES; route++) {
                loadsLeft[route] = parcels.loadOf(route);
                stations.send(route, NONE);
            }
            int assigned = 0;
            for (int i = 0; i < ROUTES; i++) {
                assigned += assignOne(heaviestRoute(), lightestChute());
            }
            return assigned;
        }

        int assignOne(int route, int chute) {
            if (!isRoute(route) || chute < 0 || chute >= MAX_CHUTES) {
                return 0;
            }
            stations.send(route, chute);
            sums[chute] += loadsLeft[route];
            loadsLeft[route] = 0;
            return 1;
        }

        int heaviestRoute() {
            int heaviest = NONE;
            int greatest = 0;
            for (int route = 0; route < ROUTES; route++) {
                if (loadsLeft[route] > greatest) {
                    greatest = loadsLeft[route];
                    heaviest = route;
                }
            }
            return heaviest;
        }

        int lightestChute() {
            int lightest = NONE;
            int least = Integer.MAX_VALUE;
            for (int i = 0; i < MAX_CHUTES; i++) {
                Chute chute = stations.chute(i);
                if (chute != null && !chute.jammed && sums[i] < least) {
                    least = sums[i];
                    lightest = i;
                }
            }
            return lightest;
        }
    }

    /** Finds in two ways how many parcels leave, on rows of its own, so that nothing of the sorter changes. */
    private static final class Forecast {
        final Stations stations;
        final Parcels parcels;
        final Belt belt;
        final Belt copy = new Belt();
        final int[] positions = new int[MAX_TRAYS];
        final int[] parcelsOn = new int[MAX_TRAYS];
        final int[] roundsOn = new int[MAX_TRAYS];
        final int[] inChutes = new int[MAX_CHUTES];
        int firstOfQueue;

        Forecast(Stations stations, Parcels parcels, Belt belt) {
            this.stations = stations;
            this.parcels = parcels;
            this.belt = belt;
        }

        int byOrigin(int ticks) {
            begin();
            copy.copyFrom(belt);
            int left = 0;
            for (int i = 0; i < ticks; i++) {
                left += moveOrigin();
            }
            return left;
        }

        int byTrays(int ticks) {
            begin();
            for (int tray = 0; tray < MAX_TRAYS; tray++) {
                positions[tray] = tray;
                parcelsOn[tray] = belt.parcelAt(tray);
                roundsOn[tray] = belt.roundsAt(tray);
            }
            int left = 0;
            for (int i = 0; i < ticks; i++) {
                for (int tray = 0; tray <= stations.last && tray < MAX_TRAYS; tray++) {
                    left += moveTray(tray);
                }
            }
            return left;
        }

        void begin() {
            firstOfQueue = parcels.loaded;
            for (int i = 0; i < MAX_CHUTES; i++) {
                Chute chute = stations.chute(i);
                inChutes[i] = chute != null ? chute.content.count : 0;
            }
        }

        int moveOrigin() {
            copy.move();
            if (stations.loaderPuts(copy.parcelAt(0), firstOfQueue, parcels.arrived)) {
                copy.put(0, firstOfQueue);
                firstOfQueue++;
            }
            int left = 0;
            for (int i = 0; i < MAX_CHUTES; i++) {
                Chute chute = stations.chute(i);
                if (chute != null && chuteGets(i, copy.parcelAt(chute.position))) {
                    copy.takeFrom(chute.position);
                    left++;
                }
            }
            if (stations.overflowTakes(copy.parcelAt(stations.last), copy.roundsAt(stations.last))) {
                copy.takeFrom(stations.last);
                left++;
            }
            return left;
        }

        int moveTray(int tray) {
            if (tray < 0 || tray >= MAX_TRAYS) {
                return 0;
            }
            int position = positions[tray] < stations.last ? positions[tray] + 1 : 0;
            positions[tray] = position;
            if (position == 0) {
                roundsOn[tray]++;
                loadTray(tray);
                return 0;
            }
            boolean leaves = position == stations.last
                    ? stations.overflowTakes(parcelsOn[tray], roundsOn[tray])
                    : chuteGets(stations.numberAt(position), parcelsOn[tray]);
            if (!leaves) {
                return 0;
            }
            parcelsOn[tray] = NONE;
            return 1;
        }

        void loadTray(int tray) {
            if (tray < 0 || tray >= MAX_TRAYS) {
                return;
            }
            if (stations.loaderPuts(parcelsOn[tray], firstOfQueue, parcels.arrived)) {
                parcelsOn[tray] = firstOfQueue;
                roundsOn[tray] = 0;
                firstOfQueue++;
            }
        }

        boolean chuteGets(int number, int parcel) {
            if (number < 0 || number >= MAX_CHUTES) {
                return false;
            }
            if (!stations.chuteTakes(number, parcels.routeAt(parcel), inChutes[number])) {
                return false;
            }
            inChutes[number]++;
            return true;
        }
    }

    /** The trucks: what they took lies behind one another in one row. */
    private static final class Fleet {
        final Row content = new Row(MAX_PARCELS);
        final int[] starts = new int[MAX_PARCELS];
        int count;

        boolean has(int truck) {
            return truck >= 0 && truck < count && truck < MAX_PARCELS;
        }

        int take(Row parcels) {
            int truck = count;
            if (truck < 0 || truck >= MAX_PARCELS) {
                return NONE;
            }
            starts[truck] = content.count;
            for (int i = 0; i < parcels.count; i++) {
                content.add(parcels.at(i));
            }
            count++;
            return truck;
        }

        int startOf(int truck) {
            return has(truck) ? starts[truck] : content.count;
        }

        int sizeOf(int truck) {
            return has(truck) ? startOf(truck + 1) - startOf(truck) : 0;
        }

        int parcelAt(int truck, int index) {
            return content.at(startOf(truck) + index);
        }

        int sealOf(int truck) {
            return content.sealOf(startOf(truck), startOf(truck) + sizeOf(truck));
        }
    }
}
