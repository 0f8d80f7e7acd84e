/** What the document's "Terms" say of cupboards, places, sums and changes, and that 512 calls are answered. */
public final class TermsTest {
    private static final Checks checks = new Checks();

    public static void main(String[] args) {
        cupboardsAreNumberedFromNought();
        drawersAreEmptyAtFirst();
        drawersHoldTheGreatestThing();
        aDrawerIsBelowItsPlaces();
        theSumOfADrawerIsARemainder();
        thingsOf997ApartHaveTheSameSum();
        theSumOfAPlaceIsARemainder();
        aSumIsMadeOfLeftRightAndPlace();
        changesByPut();
        changesBySwap();
        changesByMend();
        changesAreNotMadeByOtherCalls();
        changesOfThe512thCall();
        theLastCallIsAnswered();
        checks.end("TermsTest");
    }

    /** "at most 6, numbered from 0 in the order of their coming" */
    private static void cupboardsAreNumberedFromNought() {
        SealedCupboards room = new SealedCupboards();
        for (int number = 0; number < 6; number++) {
            int cupboard = number;
            checks.due("Terms: the next cupboard", number, room::come);
            checks.due("Terms: it holds its own things", 0, () -> room.put(cupboard, 3, 100 + cupboard));
        }
        for (int number = 0; number < 6; number++) {
            int cupboard = number;
            checks.due("Terms: its thing is still its own", 100 + number, () -> room.thing(cupboard, 3));
        }
    }

    /** "each has 16 drawers, 0 to 15, each with a thing, 0 (at first)" */
    private static void drawersAreEmptyAtFirst() {
        SealedCupboards room = Rooms.of(5);
        room.put(4, 0, 9999);
        room.put(4, 15, 9999);
        room.come();
        for (int drawer = 0; drawer <= 15; drawer++) {
            int asked = drawer;
            checks.due("Terms: the first cupboard's drawer " + drawer, 0, () -> room.thing(0, asked));
            checks.due("Terms: a late cupboard's drawer " + drawer, 0, () -> room.thing(5, asked));
        }
    }

    /** "each with a thing, 0 (at first) to 9999" */
    private static void drawersHoldTheGreatestThing() {
        SealedCupboards room = Rooms.of(6);
        for (int drawer = 0; drawer <= 15; drawer++) {
            int asked = drawer;
            checks.due("Terms: 9999 into " + drawer, 0, () -> room.put(5, asked, 9999));
            checks.due("Terms: 9999 in " + drawer, 9999, () -> room.thing(5, asked));
        }
        checks.due("Terms: the sum of 9999 in the first drawer", 177, () -> room.sum(5, 16));
        checks.due("Terms: the sum of 9999 in the last drawer", 695, () -> room.sum(5, 31));
        checks.due("Terms: the root above 9999 everywhere", 698, () -> room.sum(5, 1));
    }

    /** "1 is the root, below the place p are 2 * p (left) and 2 * p + 1 (right); the drawer d is at [..] 16 + d" */
    private static void aDrawerIsBelowItsPlaces() {
        int[] empty = new int[32];
        SealedCupboards before = Rooms.of(1);
        for (int place = 1; place <= 31; place++) {
            empty[place] = before.sum(0, place);
        }
        for (int drawer = 0; drawer <= 15; drawer++) {
            SealedCupboards room = Rooms.of(1);
            room.put(0, drawer, 1);
            for (int place = 1; place <= 31; place++) {
                int floors = 4 - (31 - Integer.numberOfLeadingZeros(place));
                boolean isAbove = (16 + drawer) >> floors == place;
                boolean isOther = room.sum(0, place) != empty[place];
                checks.same("Terms: the drawer " + drawer + " is below the place " + place,
                    String.valueOf(isAbove), String.valueOf(isOther));
            }
        }
    }

    /** "(37 * thing + 101 * (the drawer and 1, added)) % 997" where nothing is taken off, and just from 997 on */
    private static void theSumOfADrawerIsARemainder() {
        int[][] drawerThingSum = {{0, 0, 101}, {8, 0, 909}, {9, 0, 13}, {15, 0, 619}, {3, 16, 996}, {3, 43, 1},
            {7, 59, 0}, {0, 132, 0}, {0, 644, 1}, {0, 617, 996}, {15, 118, 0}, {15, 603, 996}, {15, 9091, 0},
            {0, 9999, 177}, {15, 9999, 695}};
        SealedCupboards room = Rooms.of(1);
        for (int[] one : drawerThingSum) {
            room.put(0, one[0], one[1]);
            checks.due("Terms: the sum of " + one[1] + " in " + one[0], one[2], () -> room.sum(0, 16 + one[0]));
        }
    }

    private static void thingsOf997ApartHaveTheSameSum() {
        SealedCupboards room = Rooms.of(1);
        for (int drawer = 0; drawer <= 15; drawer++) {
            int place = 16 + drawer;
            int sum = room.sum(0, place);
            room.put(0, drawer, 996);
            checks.same("Terms: 996 and 0 in " + drawer, "false", String.valueOf(room.sum(0, place) == sum));
            room.put(0, drawer, 997);
            checks.due("Terms: 997 and 0 in " + drawer, sum, () -> room.sum(0, place));
            room.put(0, drawer, 998);
            checks.same("Terms: 998 and 0 in " + drawer, "false", String.valueOf(room.sum(0, place) == sum));
            room.put(0, drawer, 9970);
            checks.due("Terms: 9970 and 0 in " + drawer, sum, () -> room.sum(0, place));
        }
    }

    /** "(61 * the sum on the left + 89 * the sum on the right + the place) % 997" where it is 0 and where it is 996 */
    private static void theSumOfAPlaceIsARemainder() {
        int[][] placeDrawerThings = {{1, 15, 816, 625}, {2, 7, 495, 445}, {3, 15, 18, 965}, {4, 3, 264, 799},
            {5, 7, 134, 669}, {6, 11, 4, 539}, {7, 15, 871, 409}, {8, 1, 62, 818}, {9, 3, 546, 305}, {10, 5, 33, 789},
            {11, 7, 517, 276}, {12, 9, 4, 760}, {13, 11, 488, 247}, {14, 13, 972, 731}, {15, 15, 459, 218}};
        for (int[] one : placeDrawerThings) {
            SealedCupboards room = Rooms.of(1);
            room.put(0, one[1], one[2]);
            checks.due("Terms: least sum at " + one[0], 0, () -> room.sum(0, one[0]));
            room.put(0, one[1], one[3]);
            checks.due("Terms: greatest sum at " + one[0], 996, () -> room.sum(0, one[0]));
        }
    }

    private static void aSumIsMadeOfLeftRightAndPlace() {
        SealedCupboards room = Rooms.full();
        for (int cupboard = 0; cupboard < 6; cupboard++) {
            int asked = cupboard;
            for (int place = 1; place <= 15; place++) {
                int p = place;
                int want = (61 * room.sum(asked, 2 * p) + 89 * room.sum(asked, 2 * p + 1) + p) % 997;
                checks.due("Terms: cupboard " + cupboard + ", place " + place, want, () -> room.sum(asked, p));
            }
        }
    }

    private static void changesAre(SealedCupboards room, int want, String by) {
        checks.due("Terms: changes " + by, want, () -> room.told(0, 1));
    }

    /** "each drawer into which another thing was put, by whatever it was, counts as one" */
    private static void changesByPut() {
        SealedCupboards room = Rooms.of(2);
        changesAre(room, 0, "of a new cupboard");
        room.put(0, 0, 0);
        changesAre(room, 0, "by nothing over nothing");
        room.put(0, 0, 1);
        changesAre(room, 1, "by another thing");
        room.put(0, 0, 1);
        changesAre(room, 1, "by the same thing");
        room.put(0, 0, 998);
        changesAre(room, 2, "by another thing of the same sum");
        room.put(0, 0, 0);
        changesAre(room, 3, "by nothing over a thing");
        room.put(1, 0, 5);
        changesAre(room, 3, "by a thing in the other cupboard");
    }

    private static void changesBySwap() {
        SealedCupboards room = Rooms.of(1);
        room.put(0, 0, 1);
        room.swap(0, 0, 15);
        changesAre(room, 3, "by a swap: two drawers");
        room.swap(0, 15, 15);
        changesAre(room, 3, "by a swap with itself");
        room.swap(0, 3, 4);
        changesAre(room, 3, "by a swap of like things");
        room.put(0, 0, 998);
        room.swap(0, 0, 15);
        changesAre(room, 6, "by a swap of other things of the same sum");
    }

    private static void changesByMend() {
        SealedCupboards room = Rooms.of(2);
        room.mend(1, 0);
        changesAre(room, 0, "by a mend of what is alike");
        room.put(1, 0, 1);
        room.put(1, 15, 2);
        room.mend(1, 0);
        changesAre(room, 2, "by a mend of two drawers");
        room.put(1, 3, 3);
        room.mend(0, 1);
        changesAre(room, 2, "by a mend of the other one");
        checks.due("Terms: changes of the mended one", 4, () -> room.told(1, 1));
    }

    private static void changesAreNotMadeByOtherCalls() {
        SealedCupboards room = Rooms.sealedOnce();
        room.swap(0, 0, 15);
        room.come();
        room.seal(0);
        room.swapped(0);
        room.proves(0, 0, 9999);
        room.comes(0, 9999, 0, 0, 0, 0);
        room.differ(0, 1);
        room.looks(0, 1);
        room.mend(0, 1);
        changesAre(room, 17, "by calls that put nothing into it");
    }

    /** Most changes that 512 calls can make: 492 mends of 16 drawers each. */
    private static void changesOfThe512thCall() {
        SealedCupboards room = Rooms.of(3);
        for (int drawer = 0; drawer <= 15; drawer++) {
            room.put(0, drawer, 9999);
        }
        for (int call = 20; call <= 511; call++) {
            int model = call % 2;
            checks.due("Terms: mend in call " + call, 16, () -> room.mend(model, 2));
        }
        checks.due("Terms: changes in the 512th call", 492 * 16, () -> room.told(2, 1));
    }

    /** "An object is used for at most 512 calls": the last of them changes, too. */
    private static void theLastCallIsAnswered() {
        SealedCupboards room = Rooms.of(6, 20);
        for (int call = 27; call <= 511; call++) {
            int thing = call;
            checks.due("Terms: put in call " + call, call == 27 ? 0 : call - 1, () -> room.put(5, 15, thing));
        }
        checks.due("Terms: the 512th call", 9, () -> room.swap(5, 0, 15));
    }
}
