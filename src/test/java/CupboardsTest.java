/** Promises 1 to 7: a new object, come, put, swap, sum, told, thing. What they refuse is in RefusalsTest. */
public final class CupboardsTest {
    private static final Checks checks = new Checks();

    public static void main(String[] args) {
        newObjectIsEmpty();
        newObjectIsItsOwn();
        come();
        comeFillsTheRoom();
        put();
        putInEveryCorner();
        putOfTheSameSum();
        swap();
        swapInEitherOrder();
        swapLeavesEqualSumsAbove();
        swapWithItself();
        swapOfLikeThings();
        swapOfLikeSums();
        sumOfTheEmptyCupboard();
        sumsAfterPuts();
        sumInEveryCorner();
        told();
        toldOfTheEmptyCupboard();
        toldOfTheFullCupboard();
        toldOfSeals();
        toldOfAllSeals();
        thing();
        checks.end("CupboardsTest");
    }

    // ---- promise 1

    /** "Creates an empty room." */
    private static void newObjectIsEmpty() {
        SealedCupboards room = new SealedCupboards();
        for (int what = 0; what < 4; what++) {
            int asked = what;
            checks.due("1: count of a new object", 0, () -> room.count(asked));
        }
        checks.due("1: mean of a new object", 0.0, room::mean);
        checks.due("1: digest of a new object", 1277L * 31 * 31 * 31 * 31, room::digest);
        checks.due("1: comes needs no cupboard", 218, () -> room.comes(0, 0, 0, 0, 0, 0));
        checks.due("1: no cupboard", Checks.INDEX, () -> room.told(0, 0));
        checks.due("1: no seal", Checks.INDEX, () -> room.about(0, 0));
        checks.due("1: the first cupboard", 0, room::come);
        checks.due("1: still no seal", Checks.INDEX, () -> room.about(0, 0));
        checks.due("1: the first seal", 0, () -> room.seal(0));
    }

    private static void newObjectIsItsOwn() {
        SealedCupboards other = Rooms.full();
        SealedCupboards room = new SealedCupboards();
        checks.due("1: empty beside a full one", 0, () -> room.count(0));
        room.come();
        room.put(0, 0, 3);
        checks.due("1: what is put here is not put there", 0, () -> other.thing(0, 0));
    }

    // ---- promise 2

    private static void come() {
        SealedCupboards room = new SealedCupboards();
        for (int number = 0; number < 6; number++) {
            checks.due("2: come", number, room::come);
            int come = number;
            checks.due("2: come counts", number + 1, () -> room.count(0));
            checks.due("2: a new cupboard is empty", 0, () -> room.told(come, 3));
        }
    }

    private static void comeFillsTheRoom() {
        SealedCupboards room = Rooms.of(5, 20);
        checks.due("2: the last one, with all seals made", 5, room::come);
        checks.due("2: it has no seals", 0, () -> room.told(5, 4));
        checks.due("2: one too many", Checks.STATE, room::come);
        checks.due("2: the last one is as it was", 382, () -> room.sum(5, 1));
        checks.due("2: there are 6", 6, () -> room.count(0));
    }

    // ---- promise 3

    private static void put() {
        SealedCupboards room = Rooms.of(2);
        checks.due("3: put into an empty drawer", 0, () -> room.put(0, 0, 9999));
        checks.due("3: put over a thing", 9999, () -> room.put(0, 0, 12));
        checks.due("3: put the same", 12, () -> room.put(0, 0, 12));
        checks.due("3: the same is no change", 2, () -> room.told(0, 1));
        checks.due("3: put into the last drawer", 0, () -> room.put(0, 15, 1));
        checks.due("3: put 0", 1, () -> room.put(0, 15, 0));
        checks.due("3: 0 over 0", 0, () -> room.put(0, 15, 0));
        checks.due("3: changes", 4, () -> room.told(0, 1));
        checks.due("3: the thing lies there", 12, () -> room.thing(0, 0));
        checks.due("3: not in the other cupboard", 0, () -> room.thing(1, 0));
        checks.due("3: the other cupboard has no changes", 0, () -> room.told(1, 1));
    }

    private static void putInEveryCorner() {
        SealedCupboards room = Rooms.of(6);
        for (int cupboard : new int[] {0, 5}) {
            for (int drawer : new int[] {0, 15}) {
                String at = " in " + cupboard + ", " + drawer;
                checks.due("3: the greatest thing" + at, 0, () -> room.put(cupboard, drawer, 9999));
                checks.due("3: the least thing" + at, 9999, () -> room.put(cupboard, drawer, 0));
                checks.due("3: the least thing but one" + at, 0, () -> room.put(cupboard, drawer, 1));
                checks.due("3: the greatest but one" + at, 1, () -> room.put(cupboard, drawer, 9998));
                checks.due("3: it lies there" + at, 9998, () -> room.thing(cupboard, drawer));
            }
        }
        checks.due("3: nothing beside", 2, () -> room.told(5, 2));
    }

    private static void putOfTheSameSum() {
        SealedCupboards room = Rooms.of(1);
        room.put(0, 3, 5);
        int root = room.sum(0, 1);
        checks.due("3: a thing of the same sum", 5, () -> room.put(0, 3, 1002));
        checks.due("3: its root is the same", root, () -> room.sum(0, 1));
        checks.due("3: it lies there", 1002, () -> room.thing(0, 3));
        checks.due("3: it is a change", 2, () -> room.told(0, 1));
    }

    // ---- promise 4

    private static void swap() {
        SealedCupboards room = Rooms.of(1);
        room.put(0, 0, 5);
        room.put(0, 15, 27);
        checks.due("4: swap of the outermost: 2 drawers, 6 below the root, the root", 9, () -> room.swap(0, 0, 15));
        checks.due("4: first thing", 27, () -> room.thing(0, 0));
        checks.due("4: last thing", 5, () -> room.thing(0, 15));
        checks.due("4: two changes", 4, () -> room.told(0, 1));
        checks.due("4: swap of neighbours: 2 drawers and 4 above", 6, () -> room.swap(0, 0, 1));
        checks.due("4: the thing went", 0, () -> room.thing(0, 0));
        checks.due("4: the thing came", 27, () -> room.thing(0, 1));
        checks.due("4: changes", 6, () -> room.told(0, 1));
    }

    private static void swapInEitherOrder() {
        SealedCupboards room = Rooms.of(6);
        room.put(5, 0, 9999);
        checks.due("4: the greater drawer first", 9, () -> room.swap(5, 15, 0));
        checks.due("4: it went", 0, () -> room.thing(5, 0));
        checks.due("4: it came", 9999, () -> room.thing(5, 15));
        checks.due("4: swap back", 9, () -> room.swap(5, 0, 15));
        checks.due("4: it is back", 9999, () -> room.thing(5, 0));
        checks.due("4: the root is back", 648, () -> room.sum(5, 1));
        checks.due("4: the other cupboards are as they were", 0, () -> room.count(3) - room.told(5, 1));
    }

    /** Sums on the way of a swapped thing may stay the same ones: these are not counted. */
    private static void swapLeavesEqualSumsAbove() {
        SealedCupboards room = Rooms.of(1);
        for (int drawer = 0; drawer <= 15; drawer++) {
            room.put(0, drawer, 7 * drawer + 1);
        }
        checks.due("4: the drawers 1 and 2: not the sum at the place 4", 4, () -> room.swap(0, 1, 2));
        checks.due("4: the drawers 3 and 12: all but the root", 8, () -> room.swap(0, 3, 12));
        checks.due("4: the drawers 7 and 8: with the root", 9, () -> room.swap(0, 7, 8));
    }

    private static void swapWithItself() {
        SealedCupboards room = Rooms.of(1);
        room.put(0, 0, 8);
        room.put(0, 15, 9999);
        checks.due("4: the first with itself", 0, () -> room.swap(0, 0, 0));
        checks.due("4: the last with itself", 0, () -> room.swap(0, 15, 15));
        checks.due("4: the first thing lies there", 8, () -> room.thing(0, 0));
        checks.due("4: the last thing lies there", 9999, () -> room.thing(0, 15));
        checks.due("4: no changes", 2, () -> room.told(0, 1));
    }

    private static void swapOfLikeThings() {
        SealedCupboards room = Rooms.of(1);
        checks.due("4: swap in an empty cupboard", 0, () -> room.swap(0, 0, 15));
        room.put(0, 2, 8);
        room.put(0, 9, 8);
        checks.due("4: swap of like things", 0, () -> room.swap(0, 2, 9));
        checks.due("4: no changes", 2, () -> room.told(0, 1));
    }

    private static void swapOfLikeSums() {
        SealedCupboards room = Rooms.of(1);
        room.put(0, 2, 8);
        room.put(0, 9, 8 + 997);
        checks.due("4: swap of things with like sums", 0, () -> room.swap(0, 2, 9));
        checks.due("4: the things went all the same", 1005, () -> room.thing(0, 2));
        checks.due("4: two changes", 4, () -> room.told(0, 1));
    }

    // ---- promise 5

    private static void sumOfTheEmptyCupboard() {
        int[] empty = {0, 382, 688, 877, 854, 509, 164, 816, 219, 610, 4, 395, 786, 180, 571, 962,
            101, 202, 303, 404, 505, 606, 707, 808, 909, 13, 114, 215, 316, 417, 518, 619};
        sumsAre(Rooms.of(1), 0, empty);
        sumsAre(Rooms.of(6), 5, empty);
    }

    private static void sumsAfterPuts() {
        SealedCupboards room = Rooms.of(1);
        int[] filled = {0, 909, 153, 219, 502, 509, 164, 775, 867, 610, 4, 395, 786, 180, 571, 267,
            177, 202, 303, 404, 505, 606, 707, 808, 909, 13, 114, 215, 316, 417, 518, 656};
        room.put(0, 0, 9999);
        room.put(0, 15, 1);
        sumsAre(room, 0, filled);
    }

    private static void sumsAre(SealedCupboards room, int cupboard, int[] want) {
        for (int place = 1; place <= 31; place++) {
            int asked = place;
            checks.due("5: sum at " + place, want[place], () -> room.sum(cupboard, asked));
        }
    }

    private static void sumInEveryCorner() {
        SealedCupboards room = Rooms.full();
        checks.due("5: just below the places", Checks.INDEX, () -> room.sum(0, 0));
        checks.due("5: the root of the first cupboard", 382, () -> room.sum(0, 1));
        checks.due("5: the last place of the first cupboard", 619, () -> room.sum(0, 31));
        checks.due("5: the root of the last cupboard", 698, () -> room.sum(5, 1));
        checks.due("5: the last place of the last cupboard", 695, () -> room.sum(5, 31));
        checks.due("5: just above the places", Checks.INDEX, () -> room.sum(5, 32));
    }

    // ---- promise 6

    private static void toldIs(SealedCupboards room, int cupboard, String whose, int... want) {
        for (int what = 0; what <= 5; what++) {
            int asked = what;
            checks.due("6: " + whose + ", " + what, want[what], () -> room.told(cupboard, asked));
        }
    }

    private static void told() {
        SealedCupboards room = Rooms.of(6);
        room.put(5, 0, 9999);
        room.put(5, 15, 1);
        room.put(5, 7, 3);
        room.put(5, 7, 0);
        toldIs(room, 5, "two things", 909, 4, 2, 10000, 0, 0);
    }

    private static void toldOfTheEmptyCupboard() {
        toldIs(Rooms.of(1), 0, "the only cupboard, empty", 382, 0, 0, 0, 0, 0);
        toldIs(Rooms.of(6), 5, "the last cupboard, empty", 382, 0, 0, 0, 0, 0);
        SealedCupboards room = Rooms.of(1);
        room.put(0, 0, 1);
        room.put(0, 0, 0);
        toldIs(room, 0, "a cupboard emptied again", 382, 2, 0, 0, 0, 0);
    }

    private static void toldOfTheFullCupboard() {
        toldIs(Rooms.full(), 5, "the greatest thing everywhere", 698, 16, 16, 159984, 4, 4);
        toldIs(Rooms.full(), 4, "all but one drawer filled, and changed since", 191, 17, 15, 73560, 3, 0);
    }

    /** "those of these that it keeps: whose root is its own one now" */
    private static void toldOfSeals() {
        SealedCupboards room = Rooms.of(2);
        room.seal(0);
        room.seal(1);
        room.seal(0);
        checks.due("6: seals of the first", 2, () -> room.told(0, 4));
        checks.due("6: seals of the second", 1, () -> room.told(1, 4));
        checks.due("6: it keeps both, and not the other's", 2, () -> room.told(0, 5));
        checks.due("6: the second keeps its own", 1, () -> room.told(1, 5));
        room.put(0, 4, 1);
        room.seal(0);
        checks.due("6: three seals", 3, () -> room.told(0, 4));
        checks.due("6: it keeps the last", 1, () -> room.told(0, 5));
        room.put(0, 4, 997);
        checks.due("6: it keeps those of the same root", 2, () -> room.told(0, 5));
        room.put(0, 4, 2);
        checks.due("6: it keeps none", 0, () -> room.told(0, 5));
    }

    private static void toldOfAllSeals() {
        SealedCupboards room = Rooms.of(6);
        for (int seal = 0; seal < 20; seal++) {
            room.seal(5);
        }
        checks.due("6: all seals are of the last", 20, () -> room.told(5, 4));
        checks.due("6: it keeps them all", 20, () -> room.told(5, 5));
        checks.due("6: none is of the first", 0, () -> room.told(0, 4));
        checks.due("6: the first keeps none, though the roots are equal", 0, () -> room.told(0, 5));
        room.put(5, 15, 1);
        checks.due("6: all seals are still of the last", 20, () -> room.told(5, 4));
        checks.due("6: it keeps none of them", 0, () -> room.told(5, 5));
    }

    // ---- promise 7

    private static void thing() {
        SealedCupboards room = Rooms.of(2);
        for (int drawer = 0; drawer < 16; drawer++) {
            room.put(1, drawer, 9984 + drawer);
        }
        for (int drawer = 0; drawer < 16; drawer++) {
            int asked = drawer;
            checks.due("7: thing in " + drawer, 9984 + drawer, () -> room.thing(1, asked));
            checks.due("7: nothing in " + drawer, 0, () -> room.thing(0, asked));
        }
    }
}
