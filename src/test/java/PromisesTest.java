import java.util.NoSuchElementException;

/** For each promise of the document: ordinary inputs, the edges that it names, and wrong inputs. */
public final class PromisesTest {
    private static final Class<IllegalArgumentException> ILLEGAL = IllegalArgumentException.class;
    private static final Class<IllegalStateException> STATE = IllegalStateException.class;
    private static final Class<IndexOutOfBoundsException> INDEX = IndexOutOfBoundsException.class;
    private static final Class<NoSuchElementException> NO_SUCH = NoSuchElementException.class;
    private static final Class<UnsupportedOperationException> UNSUPPORTED = UnsupportedOperationException.class;
    private static final Class<ArithmeticException> ARITHMETIC = ArithmeticException.class;
    // For the parcels 270 to 299 the first sum ends at 8565; the first sums add up to 465 * 270 + 30 * 31 * 32 / 6,
    // which is 130510, or 13 times 9973 and 861.
    private static final int SEAL_OF_LAST_THIRTY = 8618565;
    private static final int[] FAR = {Integer.MIN_VALUE, Integer.MAX_VALUE};

    private PromisesTest() {
    }

    public static void main(String[] args) {
        promise1();
        promise2();
        promise2KeepsJamsAndTicks();
        promise3();
        promise4();
        promise5();
        promise6();
        promise7();
        promise8();
        promise9();
        promise10();
        promise10Loader();
        promise10Chute();
        promise10Overflow();
        promise11();
        promise12();
        promise13();
        promise14();
        promise15();
        promise16();
        promise17();
        promise18();
        promises19And20();
        promises19And20WithRounds();
        promise21();
        promise21Balances();
        promise21Twice();
        promise22();
        promise23();
        promise24();
        promise25();
        promise26();
        promise27();
        promise28();
        promise29();
        promise30();
        promise31();
        promise32();
        promise33();
        promise34();
        promise35();
        promise36();
        promise37();
        Checks.end("PromisesTest");
    }

    private static void due(String what, Object got, Object want) {
        Checks.due(what, got, want);
    }

    private static void dueThrow(String what, Class<? extends RuntimeException> want, Checks.Call call) {
        Checks.dueThrow(what, want, call);
    }

    // A loop of 4 trays with chutes at 1 and 2, each with room for a parcel; the route 0 goes to 0, the route 1 to 1.
    private static CrossdockSorter small() {
        CrossdockSorter x = new CrossdockSorter();
        x.setLoop(4);
        x.addChute(1, 1);
        x.addChute(2, 1);
        x.assign(0, 0);
        x.assign(1, 1);
        return x;
    }

    // A chute with room for 30 parcels at the position 1 of 4; the route 0 goes to it, and so many parcels are in it.
    private static CrossdockSorter withDropped(int parcels) {
        CrossdockSorter x = new CrossdockSorter();
        x.setLoop(4);
        x.addChute(1, 30);
        x.assign(0, 0);
        for (int i = 0; i < parcels; i++) {
            x.arrive(0, 1 + i % 9);
        }
        x.pass(parcels + 1);
        return x;
    }

    private static void promise1() {
        CrossdockSorter x = new CrossdockSorter();
        due("1: stationAt(0)", x.stationAt(0), 'i');
        for (int i = 1; i < 11; i++) {
            due("1: stationAt(" + i + ")", x.stationAt(i), '-');
        }
        due("1: stationAt(11)", x.stationAt(11), 'o');
        dueThrow("1: stationAt(12)", ILLEGAL, () -> x.stationAt(12));
        dueThrow("1: inChute(0)", INDEX, () -> x.inChute(0));
        dueThrow("1: stateOf(0)", NO_SUCH, () -> x.stateOf(0));
        due("1: waiting()", x.waiting(), 0);
        due("1: onLoop()", x.onLoop(), 0);
        due("1: trucks()", x.trucks(), 0);
        due("1: tick()", x.tick(), 0L);
        due("1: setLimit(1)", x.setLimit(1), 2);
        due("1: setLoop(5)", x.setLoop(5), 12);
        for (int i = 0; i < 8; i++) {
            int route = i;
            dueThrow("1: chuteFor(" + i + ")", NO_SUCH, () -> x.chuteFor(route));
        }
        for (int i = 0; i < 5; i++) {
            int position = i;
            dueThrow("1: trayAt(" + i + ")", NO_SUCH, () -> x.trayAt(position));
        }
    }

    private static void promise2() {
        CrossdockSorter x = new CrossdockSorter();
        dueThrow("2: setLoop(3)", ILLEGAL, () -> x.setLoop(3));
        dueThrow("2: setLoop(21)", ILLEGAL, () -> x.setLoop(21));
        for (int far : FAR) {
            dueThrow("2: setLoop(" + far + ")", ILLEGAL, () -> x.setLoop(far));
        }
        due("2: setLoop(20)", x.setLoop(20), 12);
        due("2: stationAt(19)", x.stationAt(19), 'o');
        due("2: stationAt(11)", x.stationAt(11), '-');
        due("2: setLoop(4)", x.setLoop(4), 20);
        due("2: setLoop(4) again", x.setLoop(4), 4);
        due("2: stationAt(3)", x.stationAt(3), 'o');
        x.addChute(1, 1);
        dueThrow("2: setLoop(5) with a chute", STATE, () -> x.setLoop(5));
        dueThrow("2: setLoop(3) with a chute", ILLEGAL, () -> x.setLoop(3));
        due("2: stationAt(3) still", x.stationAt(3), 'o');

        CrossdockSorter y = new CrossdockSorter();
        y.setLimit(1);
        y.arrive(0, 1);
        dueThrow("2: setLoop(5) with a parcel", STATE, () -> y.setLoop(5));
        y.pass(24);
        due("2: overflowed()", y.overflowed(), 1);
        dueThrow("2: setLoop(5) when the parcel has left", STATE, () -> y.setLoop(5));
    }

    private static void promise2KeepsJamsAndTicks() {
        CrossdockSorter x = new CrossdockSorter();
        x.jam(11);
        x.pass(5);
        x.setLoop(6);
        due("2: tick() after setLoop", x.tick(), 5L);
        dueThrow("2: the overflow stays jammed", STATE, () -> x.jam(5));
        dueThrow("2: the loader stays free", STATE, () -> x.free(0));
        due("2: jam(0)", x.jam(0), 2);
        x.setLoop(7);
        dueThrow("2: the loader stays jammed", STATE, () -> x.jam(0));
        dueThrow("2: no station at 5", NO_SUCH, () -> x.free(5));
        due("2: free(6)", x.free(6), 1);
    }

    private static void promise3() {
        CrossdockSorter x = new CrossdockSorter();
        int[][] wrong = {{0, 5}, {-1, 5}, {11, 5}, {12, 5}, {3, 0}, {3, 31}, {FAR[0], 5}, {FAR[1], 5}, {3, FAR[0]},
            {3, FAR[1]}};
        for (int[] pair : wrong) {
            dueThrow("3: addChute(" + pair[0] + ", " + pair[1] + ")", ILLEGAL, () -> x.addChute(pair[0], pair[1]));
        }
        due("3: addChute(10, 30)", x.addChute(10, 30), 0);
        due("3: addChute(1, 1)", x.addChute(1, 1), 1);
        due("3: inChute(1)", x.inChute(1), 0);
        due("3: setCapacity(0, 4)", x.setCapacity(0, 4), 30);
        due("3: stationAt(10)", x.stationAt(10), 'c');
        dueThrow("3: addChute(1, 1) again", UNSUPPORTED, () -> x.addChute(1, 1));
        dueThrow("3: addChute(1, 31)", ILLEGAL, () -> x.addChute(1, 31));
        for (int i = 2; i < 6; i++) {
            due("3: addChute(" + (i + 1) + ", 2)", x.addChute(i + 1, 2), i);
        }
        dueThrow("3: a seventh chute", STATE, () -> x.addChute(8, 2));
        dueThrow("3: a seventh chute where one is", UNSUPPORTED, () -> x.addChute(1, 2));
        dueThrow("3: a seventh chute at the loader", ILLEGAL, () -> x.addChute(0, 2));
        due("3: stationAt(8)", x.stationAt(8), '-');
        dueThrow("3: inChute(6)", INDEX, () -> x.inChute(6));
    }

    private static void promise4() {
        CrossdockSorter x = withDropped(3);
        for (int chute : new int[] {-1, 1, 6, FAR[0], FAR[1]}) {
            dueThrow("4: setCapacity(" + chute + ", 0)", INDEX, () -> x.setCapacity(chute, 0));
        }
        for (int capacity : new int[] {0, 31, FAR[0], FAR[1]}) {
            dueThrow("4: setCapacity(0, " + capacity + ")", ILLEGAL, () -> x.setCapacity(0, capacity));
        }
        dueThrow("4: setCapacity(0, 2)", STATE, () -> x.setCapacity(0, 2));
        due("4: setCapacity(0, 3)", x.setCapacity(0, 3), 30);
        x.arrive(0, 1);
        due("4: pass(2) when it is full", x.pass(2), 0);
        due("4: setCapacity(0, 4)", x.setCapacity(0, 4), 3);
        due("4: pass(4)", x.pass(4), 1);
        due("4: setCapacity(0, 30)", x.setCapacity(0, 30), 4);
        x.dispatch(0);
        due("4: setCapacity(0, 1)", x.setCapacity(0, 1), 30);
    }

    private static void promise5() {
        CrossdockSorter x = new CrossdockSorter();
        for (int limit : new int[] {0, 10, FAR[0], FAR[1]}) {
            dueThrow("5: setLimit(" + limit + ")", ILLEGAL, () -> x.setLimit(limit));
        }
        due("5: setLimit(9)", x.setLimit(9), 2);
        due("5: setLimit(1)", x.setLimit(1), 9);
        x.setLoop(4);
        x.arrive(0, 1);
        due("5: pass(7)", x.pass(7), 0);
        due("5: the limit 1: pass(1)", x.pass(1), 1);
        due("5: roundsOf(0)", x.roundsOf(0), 1);
        x.setLimit(9);
        x.arrive(0, 1);
        due("5: pass(8 * 4 + 7)", x.pass(39), 0);
        due("5: the limit 9: pass(1)", x.pass(1), 1);
        due("5: roundsOf(1)", x.roundsOf(1), 9);
    }

    private static void promise6() {
        CrossdockSorter x = new CrossdockSorter();
        x.addChute(4, 2);
        for (int position : new int[] {-1, 1, 5, 12, FAR[0], FAR[1]}) {
            dueThrow("6: jam(" + position + ")", NO_SUCH, () -> x.jam(position));
        }
        due("6: jam(4)", x.jam(4), 1);
        dueThrow("6: jam(4) again", STATE, () -> x.jam(4));
        due("6: jam(0)", x.jam(0), 2);
        due("6: jam(11)", x.jam(11), 3);
        dueThrow("6: jam(0) again", STATE, () -> x.jam(0));
        dueThrow("6: jam(11) again", STATE, () -> x.jam(11));
        due("6: stationAt(4)", x.stationAt(4), 'c');
        x.addChute(5, 2);
        due("6: a new chute is not jammed: jam(5)", x.jam(5), 4);
    }

    private static void promise7() {
        CrossdockSorter x = new CrossdockSorter();
        x.addChute(4, 2);
        for (int position : new int[] {-1, 1, 5, 12, FAR[0], FAR[1]}) {
            dueThrow("7: free(" + position + ")", NO_SUCH, () -> x.free(position));
        }
        for (int position : new int[] {0, 4, 11}) {
            dueThrow("7: free(" + position + ")", STATE, () -> x.free(position));
            x.jam(position);
        }
        due("7: free(4)", x.free(4), 2);
        dueThrow("7: free(4) again", STATE, () -> x.free(4));
        due("7: free(0)", x.free(0), 1);
        due("7: free(11)", x.free(11), 0);
        x.arrive(3, 1);
        x.assign(3, 0);
        due("7: the freed ones serve: pass(5)", x.pass(5), 1);
    }

    private static void promise8() {
        CrossdockSorter x = new CrossdockSorter();
        x.setLoop(5);
        x.addChute(2, 1);
        char[] want = {'i', '-', 'c', '-', 'o'};
        for (int i = 0; i < want.length; i++) {
            due("8: stationAt(" + i + ")", x.stationAt(i), want[i]);
        }
        for (int position : new int[] {-1, 5, FAR[0], FAR[1]}) {
            dueThrow("8: stationAt(" + position + ")", ILLEGAL, () -> x.stationAt(position));
        }
    }

    private static void promise9() {
        CrossdockSorter x = new CrossdockSorter();
        int[][] wrong = {{-1, 5}, {8, 5}, {0, 0}, {0, 10}, {FAR[0], 5}, {FAR[1], 5}, {0, FAR[0]}, {0, FAR[1]}};
        for (int[] pair : wrong) {
            dueThrow("9: arrive(" + pair[0] + ", " + pair[1] + ")", ILLEGAL, () -> x.arrive(pair[0], pair[1]));
        }
        due("9: waiting()", x.waiting(), 0);
        for (int i = 0; i < 300; i++) {
            due("9: arrive", x.arrive(i % 8, 1 + i % 9), i);
        }
        dueThrow("9: arrive(0, 1) after 300", STATE, () -> x.arrive(0, 1));
        dueThrow("9: arrive(8, 1) after 300", ILLEGAL, () -> x.arrive(8, 1));
        due("9: waiting() after 300", x.waiting(), 300);
        due("9: stateOf(299)", x.stateOf(299), 'w');
        x.pass(2);
        due("9: the queue keeps its order: trayAt(1)", x.trayAt(1), 0);
        due("9: the queue keeps its order: trayAt(0)", x.trayAt(0), 1);
    }

    private static void promise10() {
        CrossdockSorter x = new CrossdockSorter();
        for (int ticks : new int[] {0, -1, 201, FAR[0], FAR[1]}) {
            dueThrow("10: pass(" + ticks + ")", ILLEGAL, () -> x.pass(ticks));
        }
        due("10: tick()", x.tick(), 0L);
        due("10: pass(200)", x.pass(200), 0);
        x.arrive(0, 1);
        x.arrive(1, 1);
        x.addChute(1, 1);
        x.assign(1, 0);
        due("10: pass(1)", x.pass(1), 0);
        due("10: trayAt(0)", x.trayAt(0), 0);
        due("10: pass(1) again", x.pass(1), 0);
        due("10: a route without a chute passes: trayAt(1)", x.trayAt(1), 0);
        due("10: pass(1): the chute takes", x.pass(1), 1);
        due("10: stateOf(1)", x.stateOf(1), 'c');
        due("10: trayAt(2)", x.trayAt(2), 0);
        dueThrow("10: trayAt(1)", NO_SUCH, () -> x.trayAt(1));
    }

    private static void promise10Loader() {
        CrossdockSorter x = new CrossdockSorter();
        x.setLoop(4);
        x.jam(0);
        for (int i = 0; i < 6; i++) {
            x.arrive(0, 1);
        }
        x.pass(3);
        due("10: a jammed loader: waiting()", x.waiting(), 6);
        x.free(0);
        x.pass(4);
        due("10: four trays are loaded: waiting()", x.waiting(), 2);
        x.pass(4);
        due("10: no tray is empty: waiting()", x.waiting(), 2);
        due("10: trayAt(0)", x.trayAt(0), 3);
        due("10: to the overflow: pass(7)", x.pass(7), 4);
        due("10: the emptied trays are loaded: waiting()", x.waiting(), 0);
        due("10: trayAt(2)", x.trayAt(2), 4);
        due("10: trayAt(1)", x.trayAt(1), 5);
    }

    private static void promise10Chute() {
        CrossdockSorter x = small();
        x.arrive(0, 1);
        x.arrive(0, 1);
        due("10: pass(3)", x.pass(3), 1);
        due("10: a full chute lets it pass", x.stateOf(1), 'l');
        x.jam(1);
        x.dispatch(0);
        due("10: a jammed chute lets it pass: pass(4)", x.pass(4), 0);
        due("10: roundsOf(1)", x.roundsOf(1), 1);
        x.free(1);
        x.setLimit(9);
        x.assign(0, 1);
        due("10: the route of now counts: pass(1)", x.pass(1), 1);
        due("10: inChute(1)", x.inChute(1), 1);
        due("10: inChute(0)", x.inChute(0), 0);
    }

    private static void promise10Overflow() {
        CrossdockSorter x = new CrossdockSorter();
        x.setLoop(4);
        x.arrive(7, 1);
        due("10: pass(11)", x.pass(11), 0);
        x.jam(3);
        due("10: a jammed overflow: pass(1)", x.pass(1), 0);
        due("10: positionOf(0)", x.positionOf(0), 3);
        x.free(3);
        due("10: the overflow serves at its position alone: pass(3)", x.pass(3), 0);
        due("10: more rounds than the limit: pass(1)", x.pass(1), 1);
        due("10: roundsOf(0)", x.roundsOf(0), 3);
        due("10: stateOf(0)", x.stateOf(0), 'o');
    }

    private static void promise11() {
        CrossdockSorter x = new CrossdockSorter();
        x.pass(1);
        due("11: tick()", x.tick(), 1L);
        x.pass(200);
        due("11: tick() then", x.tick(), 201L);
        dueThrow("11: pass(0)", ILLEGAL, () -> x.pass(0));
        x.leavingAhead(7);
        x.leavingByTrays(7);
        x.isOnce();
        due("11: tick() still", x.tick(), 201L);
    }

    private static void promise12() {
        CrossdockSorter x = small();
        x.arrive(0, 1);
        due("12: waits", x.stateOf(0), 'w');
        x.pass(1);
        due("12: on the loop", x.stateOf(0), 'l');
        x.pass(1);
        due("12: in a chute", x.stateOf(0), 'c');
        x.dispatch(0);
        due("12: in a truck", x.stateOf(0), 't');
        x.arrive(5, 1);
        x.pass(12);
        due("12: in the overflow", x.stateOf(1), 'o');
        for (int parcel : new int[] {-1, 2, 299, 300, FAR[0], FAR[1]}) {
            dueThrow("12: stateOf(" + parcel + ")", NO_SUCH, () -> x.stateOf(parcel));
        }
    }

    private static void promise13() {
        CrossdockSorter x = small();
        x.arrive(0, 1);
        x.arrive(7, 1);
        dueThrow("13: it waits", STATE, () -> x.positionOf(1));
        x.pass(2);
        dueThrow("13: it is in a chute", STATE, () -> x.positionOf(0));
        for (int position : new int[] {0, 1, 2, 3, 0, 1}) {
            due("13: positionOf(1)", x.positionOf(1), position);
            x.pass(1);
        }
        x.pass(10);
        dueThrow("13: it is in the overflow", STATE, () -> x.positionOf(1));
        x.dispatch(0);
        dueThrow("13: it is in a truck", STATE, () -> x.positionOf(0));
        for (int parcel : new int[] {-1, 2, FAR[0], FAR[1]}) {
            dueThrow("13: positionOf(" + parcel + ")", NO_SUCH, () -> x.positionOf(parcel));
        }
    }

    private static void promise14() {
        CrossdockSorter x = small();
        x.jam(1);
        x.arrive(0, 1);
        dueThrow("14: it waits", STATE, () -> x.roundsOf(0));
        x.pass(4);
        due("14: at the last position: roundsOf(0)", x.roundsOf(0), 0);
        x.pass(1);
        due("14: at the position 0 again: roundsOf(0)", x.roundsOf(0), 1);
        x.free(1);
        x.pass(1);
        due("14: in a chute: roundsOf(0)", x.roundsOf(0), 1);
        x.dispatch(0);
        due("14: in a truck: roundsOf(0)", x.roundsOf(0), 1);
        x.arrive(6, 1);
        x.pass(40);
        due("14: in the overflow: roundsOf(1)", x.roundsOf(1), 2);
        for (int parcel : new int[] {-1, 2, FAR[0], FAR[1]}) {
            dueThrow("14: roundsOf(" + parcel + ")", NO_SUCH, () -> x.roundsOf(parcel));
        }
        x.arrive(6, 1);
        x.pass(1);
        due("14: rounds begin with 0: roundsOf(2)", x.roundsOf(2), 0);
    }

    private static void promise15() {
        CrossdockSorter x = new CrossdockSorter();
        x.setLoop(4);
        for (int i = 0; i < 3; i++) {
            x.arrive(0, 1);
        }
        x.pass(3);
        for (int i = 0; i < 3; i++) {
            due("15: trayAt(" + i + ")", x.trayAt(i), 2 - i);
        }
        dueThrow("15: trayAt(3)", NO_SUCH, () -> x.trayAt(3));
        for (int position : new int[] {-1, 4, FAR[0], FAR[1]}) {
            dueThrow("15: trayAt(" + position + ")", ILLEGAL, () -> x.trayAt(position));
        }
        x.pass(2);
        due("15: trayAt(0) after the last position", x.trayAt(0), 0);
        dueThrow("15: trayAt(1)", NO_SUCH, () -> x.trayAt(1));
    }

    private static void promise16() {
        CrossdockSorter x = small();
        x.arrive(0, 1);
        x.arrive(1, 1);
        due("16: waiting()", x.waiting(), 2);
        x.pass(1);
        due("16: waiting() after a tick", x.waiting(), 1);
        x.pass(9);
        due("16: waiting() at last", x.waiting(), 0);
    }

    private static void promise17() {
        CrossdockSorter x = small();
        x.arrive(0, 1);
        x.arrive(1, 1);
        x.arrive(7, 1);
        due("17: onLoop()", x.onLoop(), 0);
        x.pass(1);
        due("17: after a tick", x.onLoop(), 1);
        x.pass(2);
        due("17: after a drop", x.onLoop(), 2);
        x.pass(1);
        due("17: after two drops", x.onLoop(), 1);
        x.dispatch(0);
        due("17: after a truck", x.onLoop(), 1);
        x.pass(20);
        due("17: after the overflow", x.onLoop(), 0);
    }

    private static void promise18() {
        CrossdockSorter x = small();
        x.arrive(0, 1);
        x.arrive(6, 1);
        x.arrive(7, 1);
        x.pass(12);
        due("18: overflowed()", x.overflowed(), 0);
        x.pass(1);
        due("18: overflowed() after one", x.overflowed(), 1);
        x.pass(1);
        due("18: overflowed() after two", x.overflowed(), 2);
        x.dispatch(0);
        due("18: trucks do not count", x.overflowed(), 2);
    }

    private static void promises19And20() {
        CrossdockSorter x = small();
        for (int ticks : new int[] {0, -1, 201, FAR[0], FAR[1]}) {
            dueThrow("19: leavingAhead(" + ticks + ")", ILLEGAL, () -> x.leavingAhead(ticks));
            dueThrow("20: leavingByTrays(" + ticks + ")", ILLEGAL, () -> x.leavingByTrays(ticks));
        }
        x.arrive(0, 1);
        x.arrive(0, 1);
        x.arrive(1, 1);
        x.arrive(7, 1);
        x.arrive(7, 1);
        int[] wanted = {0, 1, 1, 1, 2, 2, 2, 2, 2, 2, 2, 2, 3, 3, 4, 5, 5};
        for (int before = 0; before < 2; before++) {
            for (int i = 1; i <= wanted.length - before; i++) {
                int want = wanted[i + before - 1];
                due("19: leavingAhead(" + i + ") after " + before, x.leavingAhead(i), want);
                due("20: leavingByTrays(" + i + ") after " + before, x.leavingByTrays(i), want);
            }
            due("19: leavingAhead(200)", x.leavingAhead(200), 5);
            due("20: leavingByTrays(200)", x.leavingByTrays(200), 5);
            x.pass(1);
        }
        due("19: nothing changed: waiting()", x.waiting(), 3);
        due("19: nothing changed: tick()", x.tick(), 2L);
        x.jam(3);
        due("19: a jammed overflow", x.leavingAhead(200), 1);
        due("20: a jammed overflow", x.leavingByTrays(200), 1);
        x.jam(0);
        due("19: a jammed loader", x.leavingAhead(200), 0);
        due("20: a jammed loader", x.leavingByTrays(200), 0);
        x.free(3);
        due("19: the overflow again", x.leavingAhead(200), 1);
        due("20: the overflow again", x.leavingByTrays(200), 1);
    }

    private static void dueAhead(String what, CrossdockSorter x, int ticks, int want) {
        due("19: " + what + ": leavingAhead(" + ticks + ")", x.leavingAhead(ticks), want);
        due("20: " + what + ": leavingByTrays(" + ticks + ")", x.leavingByTrays(ticks), want);
    }

    private static void promises19And20WithRounds() {
        CrossdockSorter x = small();
        x.arrive(7, 1);
        x.arrive(0, 1);
        x.pass(9);
        due("19: roundsOf(0)", x.roundsOf(0), 2);
        dueAhead("before the last position", x, 2, 0);
        dueAhead("at the last position", x, 3, 1);
        x.arrive(0, 1);
        x.arrive(0, 1);
        // They are loaded at the ticks 10 and 11, and come to the overflow with two rounds at the ticks 21 and 22.
        dueAhead("a full chute", x, 11, 1);
        dueAhead("a full chute", x, 12, 2);
        dueAhead("a full chute", x, 13, 3);
        x.setCapacity(0, 2);
        dueAhead("a chute with room for one more", x, 2, 1);
        dueAhead("a chute with room for one more", x, 12, 2);
        dueAhead("the one behind it comes to the overflow", x, 13, 3);
        x.jam(1);
        dueAhead("a jammed chute", x, 11, 1);
        x.free(1);
        x.setLimit(9);
        dueAhead("another limit", x, 30, 1);
        x.unassign(0);
        dueAhead("another limit and no route", x, 30, 0);
        due("19: nothing changed: roundsOf(0)", x.roundsOf(0), 2);
        due("19: nothing changed: positionOf(0)", x.positionOf(0), 0);
        due("19: nothing changed: inChute(0)", x.inChute(0), 1);
    }

    private static void promise21() {
        CrossdockSorter x = new CrossdockSorter();
        dueThrow("21: no chute", STATE, () -> x.startWave());
        x.addChute(3, 5);
        x.addChute(6, 5);
        x.jam(3);
        x.jam(6);
        x.assign(2, 1);
        x.arrive(4, 1);
        dueThrow("21: all chutes jammed", STATE, () -> x.startWave());
        due("21: nothing changed: chuteFor(2)", x.chuteFor(2), 1);
        x.free(6);
        due("21: startWave()", x.startWave(), 1);
        due("21: not to the jammed one: chuteFor(4)", x.chuteFor(4), 1);
        dueThrow("21: assign() of a route without load ends", NO_SUCH, () -> x.chuteFor(2));
        x.pass(12);
        due("21: stateOf(0)", x.stateOf(0), 'c');
        due("21: no load: startWave()", x.startWave(), 0);
        dueThrow("21: chuteFor(4)", NO_SUCH, () -> x.chuteFor(4));
    }

    private static void promise21Balances() {
        CrossdockSorter x = new CrossdockSorter();
        x.addChute(3, 1);
        x.addChute(6, 30);
        x.addChute(5, 30);
        int[][] arrivals = {{0, 4}, {1, 7}, {2, 4}, {3, 9}, {0, 3}, {5, 2}, {6, 1}};
        for (int[] arrival : arrivals) {
            x.arrive(arrival[0], arrival[1]);
        }
        x.assign(3, 2);
        // By load: 3 with 9, 0 and 1 with 7, 2 with 4, 5 with 2, 6 with 1.
        due("21: startWave()", x.startWave(), 6);
        int[] chutes = {1, 2, 1, 0, -1, 2, 0, -1};
        for (int i = 0; i < chutes.length; i++) {
            int route = i;
            if (chutes[i] < 0) {
                dueThrow("21: chuteFor(" + i + ")", NO_SUCH, () -> x.chuteFor(route));
            } else {
                due("21: chuteFor(" + i + ")", x.chuteFor(i), chutes[i]);
            }
        }
    }

    private static void promise21Twice() {
        CrossdockSorter x = new CrossdockSorter();
        x.addChute(3, 1);
        x.addChute(6, 30);
        x.arrive(0, 9);
        for (int wave = 0; wave < 2; wave++) {
            due("21: one route: startWave()", x.startWave(), 1);
            due("21: sums are of this wave alone: chuteFor(0)", x.chuteFor(0), 0);
        }
        for (int i = 1; i < 8; i++) {
            x.arrive(i, 9);
        }
        for (int wave = 0; wave < 2; wave++) {
            due("21: all routes: startWave()", x.startWave(), 8);
            for (int i = 0; i < 8; i++) {
                due("21: of several the lowest number: chuteFor(" + i + ")", x.chuteFor(i), i % 2);
            }
        }
        x.arrive(7, 1);
        due("21: another load: startWave()", x.startWave(), 8);
        due("21: the greatest load first: chuteFor(7)", x.chuteFor(7), 0);
        due("21: then the others: chuteFor(0)", x.chuteFor(0), 1);
        x.jam(6);
        due("21: the chute 0 alone: startWave()", x.startWave(), 8);
        for (int i = 0; i < 8; i++) {
            due("21: the chute 0 alone: chuteFor(" + i + ")", x.chuteFor(i), 0);
        }
        x.free(6);
        x.pass(2);
        due("21: on the loop too: startWave()", x.startWave(), 8);
    }

    private static void promise22() {
        CrossdockSorter x = new CrossdockSorter();
        dueThrow("22: no chute", INDEX, () -> x.assign(0, 0));
        x.addChute(3, 5);
        x.addChute(4, 5);
        for (int route : new int[] {-1, 8, FAR[0], FAR[1]}) {
            dueThrow("22: assign(" + route + ", 9)", ILLEGAL, () -> x.assign(route, 9));
        }
        for (int chute : new int[] {-1, 2, 6, FAR[0], FAR[1]}) {
            dueThrow("22: assign(0, " + chute + ")", INDEX, () -> x.assign(0, chute));
        }
        due("22: assign(0, 1)", x.assign(0, 1), -1);
        due("22: assign(0, 0)", x.assign(0, 0), 1);
        due("22: assign(0, 0) again", x.assign(0, 0), 0);
        due("22: assign(7, 0)", x.assign(7, 0), -1);
        due("22: chuteFor(0)", x.chuteFor(0), 0);
        due("22: chuteFor(7)", x.chuteFor(7), 0);
        x.jam(4);
        due("22: to a jammed chute", x.assign(7, 1), 0);
    }

    private static void promise23() {
        CrossdockSorter x = small();
        for (int route : new int[] {-1, 8, FAR[0], FAR[1]}) {
            dueThrow("23: unassign(" + route + ")", ILLEGAL, () -> x.unassign(route));
        }
        dueThrow("23: unassign(2)", STATE, () -> x.unassign(2));
        due("23: unassign(1)", x.unassign(1), 1);
        dueThrow("23: unassign(1) again", STATE, () -> x.unassign(1));
        dueThrow("23: chuteFor(1)", NO_SUCH, () -> x.chuteFor(1));
        due("23: chuteFor(0)", x.chuteFor(0), 0);
        x.arrive(1, 1);
        due("23: no chute takes: pass(4)", x.pass(4), 0);
    }

    private static void promise24() {
        CrossdockSorter x = small();
        for (int route : new int[] {-1, 8, FAR[0], FAR[1]}) {
            dueThrow("24: chuteFor(" + route + ")", ILLEGAL, () -> x.chuteFor(route));
        }
        due("24: chuteFor(0)", x.chuteFor(0), 0);
        due("24: chuteFor(1)", x.chuteFor(1), 1);
        dueThrow("24: chuteFor(7)", NO_SUCH, () -> x.chuteFor(7));
    }

    private static void promise25() {
        CrossdockSorter x = small();
        for (int route : new int[] {-1, 8, FAR[0], FAR[1]}) {
            dueThrow("25: load(" + route + ")", ILLEGAL, () -> x.load(route));
        }
        due("25: load(7)", x.load(7), 0);
        x.arrive(0, 9);
        x.arrive(1, 2);
        x.arrive(0, 4);
        due("25: load(0)", x.load(0), 13);
        due("25: load(1)", x.load(1), 2);
        x.pass(1);
        due("25: on the loop: load(0)", x.load(0), 13);
        x.pass(1);
        due("25: in the chute: load(0)", x.load(0), 4);
        x.pass(20);
        due("25: in the overflow: load(0)", x.load(0), 0);
    }

    private static void promise26() {
        CrossdockSorter x = withDropped(5);
        due("26: inChute(0)", x.inChute(0), 5);
        for (int chute : new int[] {-1, 1, 6, FAR[0], FAR[1]}) {
            dueThrow("26: inChute(" + chute + ")", INDEX, () -> x.inChute(chute));
        }
        x.addChute(2, 1);
        due("26: inChute(1)", x.inChute(1), 0);
        x.dispatch(0);
        due("26: inChute(0) after a truck", x.inChute(0), 0);
        CrossdockSorter full = withDropped(31);
        due("26: a full chute", full.inChute(0), 30);
    }

    // The seal by the document's words, of the parcels from one number to another.
    private static int sealOf(int from, int to) {
        int first = 0;
        int second = 0;
        for (int parcel = from; parcel <= to; parcel++) {
            first = (first + parcel + 1) % 9973;
            second = (second + first) % 9973;
        }
        return 10000 * second + first;
    }

    private static void promise27() {
        CrossdockSorter x = new CrossdockSorter();
        x.setLoop(4);
        x.addChute(1, 30);
        x.assign(0, 0);
        due("27: an empty chute", x.seal(0), 0);
        x.arrive(0, 1);
        x.pass(2);
        due("27: the parcel 0", x.seal(0), 10001);
        x.arrive(0, 1);
        x.pass(2);
        due("27: the parcels 0 and 1", x.seal(0), 40003);
        x.dispatch(0);
        due("27: after a truck", x.seal(0), 0);
        x.arrive(0, 1);
        x.pass(2);
        due("27: the parcel 2", x.seal(0), 30003);
        for (int chute : new int[] {-1, 1, FAR[0], FAR[1]}) {
            dueThrow("27: seal(" + chute + ")", INDEX, () -> x.seal(chute));
        }
        sealsWithRemainders();
    }

    // A truck takes 30 parcels ten times: the first sum of the last ones is 8565, so the second one exceeds 9973.
    private static void sealsWithRemainders() {
        CrossdockSorter x = withDropped(30);
        for (int last = 29; last < 300; last += 30) {
            due("27: the parcels to " + last, x.seal(0), sealOf(last - 29, last));
            due("28: the parcels to " + last, x.sealByParcels(0), sealOf(last - 29, last));
            due("29: the parcels to " + last, x.dispatch(0), sealOf(last - 29, last));
            due("31: the parcels to " + last, x.sealOfTruck(last / 30), sealOf(last - 29, last));
            for (int i = 0; i < 30 && last < 299; i++) {
                x.arrive(0, 1);
            }
            x.pass(31);
        }
        due("27: the parcels 270 to 299 by hand", x.sealOfTruck(9), SEAL_OF_LAST_THIRTY);
    }

    private static void promise28() {
        CrossdockSorter x = withDropped(30);
        due("28: sealByParcels(0)", x.sealByParcels(0), sealOf(0, 29));
        due("28: seal(0)", x.seal(0), sealOf(0, 29));
        for (int chute : new int[] {-1, 1, FAR[0], FAR[1]}) {
            dueThrow("28: sealByParcels(" + chute + ")", INDEX, () -> x.sealByParcels(chute));
        }
        x.dispatch(0);
        due("28: an empty chute", x.sealByParcels(0), 0);
    }

    private static void promise29() {
        CrossdockSorter x = withDropped(3);
        for (int chute : new int[] {-1, 1, FAR[0], FAR[1]}) {
            dueThrow("29: dispatch(" + chute + ")", INDEX, () -> x.dispatch(chute));
        }
        due("29: dispatch(0)", x.dispatch(0), sealOf(0, 2));
        dueThrow("29: dispatch(0) again", STATE, () -> x.dispatch(0));
        due("29: trucks()", x.trucks(), 1);
        due("29: stateOf(2)", x.stateOf(2), 't');
        x.arrive(0, 1);
        x.pass(2);
        x.jam(1);
        due("29: a jammed chute", x.dispatch(0), sealOf(3, 3));
    }

    private static void promise30() {
        CrossdockSorter x = withDropped(2);
        due("30: trucks()", x.trucks(), 0);
        x.dispatch(0);
        due("30: trucks() after one", x.trucks(), 1);
        dueThrow("30: dispatch(0)", STATE, () -> x.dispatch(0));
        due("30: trucks() still", x.trucks(), 1);
        x.arrive(0, 1);
        x.pass(2);
        x.dispatch(0);
        due("30: trucks() after two", x.trucks(), 2);
    }

    private static void promise31() {
        CrossdockSorter x = withDropped(3);
        dueThrow("31: no truck", INDEX, () -> x.sealOfTruck(0));
        x.dispatch(0);
        x.arrive(0, 1);
        x.arrive(0, 1);
        x.pass(3);
        x.dispatch(0);
        due("31: sealOfTruck(0)", x.sealOfTruck(0), sealOf(0, 2));
        due("31: sealOfTruck(1)", x.sealOfTruck(1), sealOf(3, 4));
        for (int truck : new int[] {-1, 2, 300, FAR[0], FAR[1]}) {
            dueThrow("31: sealOfTruck(" + truck + ")", INDEX, () -> x.sealOfTruck(truck));
        }
    }

    private static void promise32() {
        CrossdockSorter x = withDropped(3);
        x.dispatch(0);
        x.arrive(0, 1);
        x.pass(2);
        x.dispatch(0);
        for (int i = 0; i < 3; i++) {
            due("32: parcelIn(0, " + i + ")", x.parcelIn(0, i), i);
        }
        due("32: parcelIn(1, 0)", x.parcelIn(1, 0), 3);
        dueThrow("32: parcelIn(0, 3)", NO_SUCH, () -> x.parcelIn(0, 3));
        dueThrow("32: parcelIn(1, -1)", NO_SUCH, () -> x.parcelIn(1, -1));
        for (int far : FAR) {
            dueThrow("32: parcelIn(1, " + far + ")", NO_SUCH, () -> x.parcelIn(1, far));
            dueThrow("32: parcelIn(" + far + ", -1)", INDEX, () -> x.parcelIn(far, -1));
        }
        dueThrow("32: parcelIn(2, 0)", INDEX, () -> x.parcelIn(2, 0));
        dueThrow("32: parcelIn(-1, 0)", INDEX, () -> x.parcelIn(-1, 0));
        CrossdockSorter y = small();
        y.jam(1);
        y.arrive(0, 1);
        y.arrive(1, 1);
        y.pass(4);
        y.free(1);
        y.setCapacity(0, 2);
        y.arrive(0, 1);
        y.pass(4);
        y.dispatch(0);
        due("32: in the order in which they dropped: parcelIn(0, 0)", y.parcelIn(0, 0), 0);
        due("32: in the order in which they dropped: parcelIn(0, 1)", y.parcelIn(0, 1), 2);
    }

    private static void promise33() {
        CrossdockSorter x = withDropped(2);
        x.arrive(7, 1);
        dueThrow("33: in a chute", STATE, () -> x.truckOf(0));
        dueThrow("33: it waits", STATE, () -> x.truckOf(2));
        x.dispatch(0);
        x.pass(1);
        x.arrive(0, 1);
        x.pass(2);
        x.dispatch(0);
        due("33: truckOf(0)", x.truckOf(0), 0);
        due("33: truckOf(1)", x.truckOf(1), 0);
        due("33: truckOf(3)", x.truckOf(3), 1);
        dueThrow("33: on the loop", STATE, () -> x.truckOf(2));
        x.pass(20);
        dueThrow("33: in the overflow", STATE, () -> x.truckOf(2));
        for (int parcel : new int[] {-1, 4, FAR[0], FAR[1]}) {
            dueThrow("33: truckOf(" + parcel + ")", NO_SUCH, () -> x.truckOf(parcel));
        }
    }

    private static void promise34() {
        CrossdockSorter x = withDropped(4);
        due("34: shipped()", x.shipped(), 0L);
        x.dispatch(0);
        due("34: shipped() after one", x.shipped(), 10L);
        x.arrive(0, 9);
        x.pass(2);
        x.dispatch(0);
        due("34: shipped() after two", x.shipped(), 19L);
    }

    private static void promise35() {
        CrossdockSorter x = small();
        dueThrow("35: none has left", ARITHMETIC, () -> x.meanRounds());
        x.arrive(0, 1);
        x.arrive(7, 1);
        x.arrive(7, 1);
        x.pass(1);
        dueThrow("35: none has left yet", ARITHMETIC, () -> x.meanRounds());
        x.pass(1);
        due("35: meanRounds()", x.meanRounds(), 0.0);
        x.dispatch(0);
        x.pass(11);
        due("35: meanRounds() of two", x.meanRounds(), 1.0);
        x.pass(1);
        due("35: meanRounds() of three", x.meanRounds(), 4.0 / 3.0);
    }

    private static void promise36() {
        CrossdockSorter x = small();
        dueThrow("36: none has left", ARITHMETIC, () -> x.overflowShare());
        x.arrive(0, 1);
        x.arrive(7, 1);
        x.arrive(7, 1);
        x.pass(1);
        dueThrow("36: none has left yet", ARITHMETIC, () -> x.overflowShare());
        x.pass(1);
        due("36: overflowShare()", x.overflowShare(), 0.0f);
        x.dispatch(0);
        x.pass(11);
        due("36: overflowShare() of two", x.overflowShare(), 0.5f);
        x.pass(1);
        due("36: overflowShare() of three", x.overflowShare(), 2.0f / 3.0f);
    }

    private static void promise37() {
        CrossdockSorter x = small();
        due("37: a new object", x.isOnce(), true);
        for (int i = 0; i < 12; i++) {
            x.arrive(i % 3, 1 + i % 9);
            due("37: after arrive", x.isOnce(), true);
            x.pass(1);
            due("37: after pass", x.isOnce(), true);
        }
        x.dispatch(0);
        due("37: after dispatch", x.isOnce(), true);
        x.jam(3);
        x.startWave();
        due("37: after a wave", x.isOnce(), true);
        x.pass(100);
        x.free(3);
        due("37: before the overflow", x.isOnce(), true);
        x.pass(100);
        due("37: after the overflow", x.isOnce(), true);
        for (int i = 12; i < 300; i++) {
            x.arrive(i % 8, 1);
        }
        due("37: with 300 parcels", x.isOnce(), true);
        due("37: nothing changed: tick()", x.tick(), 212L);
    }
}
