import java.lang.reflect.Array;
import java.lang.reflect.Field;

/**
 * Promise 37: isOnce answers false if a parcel is twice or nowhere, if a seal is wrong, or if the two ways of counting
 * differ. No call of the face leads there, so these tests write to the fields of the class and know their names.
 */
public final class OnceTest {
    private static final int CHUTES = 6;

    private OnceTest() {
    }

    public static void main(String[] args) throws ReflectiveOperationException {
        parcelsInNoPlace();
        parcelsInTwoPlaces();
        parcelThatHasNotArrived();
        sealsOfChutes();
        nextSixtyTicks();
        Checks.end("OnceTest");
    }

    // Parcels in each state: 2 in a truck, one in each of six chutes, 2 in the overflow, 2 on the loop, 2 that wait.
    private static CrossdockSorter crowded() {
        CrossdockSorter x = new CrossdockSorter();
        x.setLoop(8);
        x.setLimit(1);
        for (int i = 0; i < CHUTES; i++) {
            x.addChute(i + 1, 2);
            x.assign(i, i);
        }
        arrive(x, 0, 0);
        x.pass(3);
        x.dispatch(0);
        arrive(x, 0, 1, 2, 3, 4, 5, 6, 6);
        x.pass(30);
        arrive(x, 7, 7);
        x.pass(2);
        x.jam(0);
        arrive(x, 7, 7);
        String counts = x.trucks() + " " + x.inChute(0) + " " + x.inChute(5) + " " + x.overflowed() + " " + x.onLoop()
                + " " + x.waiting();
        Checks.due("37: the parcels of the test", counts, "1 1 1 2 2 2");
        Checks.due("37: before a field is written", x.isOnce(), true);
        return x;
    }

    private static void arrive(CrossdockSorter sorter, int... routes) {
        for (int route : routes) {
            sorter.arrive(route, 1);
        }
    }

    // The fields on the way are told by their names, an element of a row by its index.
    private static Object at(Object from, String... way) throws ReflectiveOperationException {
        Object found = from;
        for (String name : way) {
            boolean isIndex = Character.isDigit(name.charAt(0));
            found = isIndex ? Array.get(found, Integer.parseInt(name)) : field(found, name).get(found);
        }
        return found;
    }

    private static Field field(Object from, String name) throws ReflectiveOperationException {
        Field field = from.getClass().getDeclaredField(name);
        field.setAccessible(true);
        return field;
    }

    private static void add(Object holder, String name, int number) throws ReflectiveOperationException {
        Field field = field(holder, name);
        field.setInt(holder, field.getInt(holder) + number);
    }

    private static void dueNotOnce(String what, CrossdockSorter sorter) {
        Checks.due("37: isOnce() with " + what, sorter.isOnce(), false);
    }

    private static void parcelsInNoPlace() throws ReflectiveOperationException {
        CrossdockSorter queue = crowded();
        add(at(queue, "parcels"), "loaded", 1);
        dueNotOnce("a parcel that waits no longer", queue);
        CrossdockSorter truck = crowded();
        add(at(truck, "fleet", "content"), "count", -1);
        dueNotOnce("a parcel that is in no truck", truck);
        CrossdockSorter overflow = crowded();
        add(at(overflow, "overflow"), "count", -1);
        dueNotOnce("a parcel that is not in the overflow", overflow);
        CrossdockSorter loop = crowded();
        emptyTrayOf(loop, loop.trayAt(0));
        dueNotOnce("a parcel that is not on the loop", loop);
    }

    private static void emptyTrayOf(CrossdockSorter sorter, int parcel) throws ReflectiveOperationException {
        int[] trays = (int[]) at(sorter, "belt", "parcelsOn");
        for (int i = 0; i < trays.length; i++) {
            if (trays[i] == parcel) {
                trays[i] = -1;
            }
        }
    }

    private static void parcelsInTwoPlaces() throws ReflectiveOperationException {
        CrossdockSorter queue = crowded();
        add(at(queue, "parcels"), "loaded", -1);
        dueNotOnce("a parcel on the loop that waits", queue);
        for (int parcel = 0; parcel < 14; parcel++) {
            CrossdockSorter x = crowded();
            int[] overflow = (int[]) at(x, "overflow", "numbers");
            overflow[x.overflowed()] = parcel;
            add(at(x, "overflow"), "count", 1);
            dueNotOnce("the parcel " + parcel + " in the overflow, once more", x);
        }
        // The row of the truck has its length, but one parcel twice and another not at all.
        CrossdockSorter truck = crowded();
        ((int[]) at(truck, "fleet", "content", "numbers"))[0] = 1;
        dueNotOnce("a parcel that is in a truck twice", truck);
    }

    private static void parcelThatHasNotArrived() throws ReflectiveOperationException {
        for (int parcel : new int[] {14, 299}) {
            CrossdockSorter x = crowded();
            int[] overflow = (int[]) at(x, "overflow", "numbers");
            overflow[x.overflowed()] = parcel;
            add(at(x, "overflow"), "count", 1);
            dueNotOnce("the parcel " + parcel + " that has not arrived", x);
        }
    }

    private static void sealsOfChutes() throws ReflectiveOperationException {
        for (int chute = 0; chute < CHUTES; chute++) {
            for (String sum : new String[] {"firstSum", "secondSum"}) {
                CrossdockSorter x = crowded();
                add(at(x, "stations", "built", "" + chute), sum, 1);
                dueNotOnce("another " + sum + " of the chute " + chute, x);
            }
        }
    }

    // The loop has 19 trays, but the stations are told that the last position is 19: so the overflow takes the parcel
    // tray by tray alone, after two rounds of 20 positions: at the tick 1 + 40 + 19 if it is loaded first, at 61 if a
    // parcel before it drops.
    private static void nextSixtyTicks() throws ReflectiveOperationException {
        for (boolean isSecond : new boolean[] {false, true}) {
            CrossdockSorter x = new CrossdockSorter();
            x.setLoop(19);
            x.addChute(1, 1);
            x.assign(0, 0);
            arrive(x, isSecond ? new int[] {0, 7} : new int[] {7});
            Checks.due("37: before the last position is another", x.isOnce(), true);
            add(at(x, "stations"), "last", 1);
            int first = isSecond ? 61 : 60;
            Checks.due("37: the counts are the same", x.leavingAhead(first - 1), x.leavingByTrays(first - 1));
            Checks.due("37: the counts differ", x.leavingAhead(first) + 1, x.leavingByTrays(first));
            Checks.due("37: isOnce() with counts that differ from the tick " + first + " on", x.isOnce(), isSecond);
        }
    }
}
