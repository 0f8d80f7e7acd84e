/** Promises 1 to 7: a new object, come, put, swap, sum, told, thing. */
public final class CupboardsTest {
    private static final Checks checks = new Checks();

    public static void main(String[] args) {
        newObject();
        come();
        put();
        putRefuses();
        swap();
        swapOfLikeSums();
        swapRefuses();
        sum();
        told();
        toldOfSeals();
        thing();
        checks.end("CupboardsTest");
    }

    private static void newObject() {
        SealedCupboards room = new SealedCupboards();
        for (int what = 0; what < 4; what++) {
            int asked = what;
            checks.due("1: count of a new object", 0, () -> room.count(asked));
        }
        checks.due("1: mean of a new object", 0.0, room::mean);
        checks.due("1: digest of a new object", 1277L * 31 * 31 * 31 * 31, room::digest);
        checks.refused(room, "1: sum of a new object", Checks.INDEX, () -> room.sum(0, 1));
        checks.refused(room, "1: about of a new object", Checks.INDEX, () -> room.about(0, 0));
        room.come();
        checks.due("1: another object is empty", 0, () -> new SealedCupboards().count(0));
    }

    private static void come() {
        SealedCupboards room = new SealedCupboards();
        for (int number = 0; number < 6; number++) {
            checks.due("2: come", number, room::come);
            int come = number;
            checks.due("2: come counts", number + 1, () -> room.count(0));
            checks.due("2: a new cupboard is empty", 0, () -> room.told(come, 3));
        }
        checks.refused(room, "2: the seventh", Checks.STATE, room::come);
    }

    private static void put() {
        SealedCupboards room = Checks.roomOf(2);
        checks.due("3: put into an empty drawer", 0, () -> room.put(0, 0, 9999));
        checks.due("3: put over a thing", 9999, () -> room.put(0, 0, 12));
        checks.due("3: put the same", 12, () -> room.put(0, 0, 12));
        checks.due("3: the same is no change", 2, () -> room.told(0, 1));
        checks.due("3: put into the last drawer", 0, () -> room.put(0, 15, 1));
        checks.due("3: put 0", 1, () -> room.put(0, 15, 0));
        checks.due("3: 0 over 0", 0, () -> room.put(0, 15, 0));
        checks.due("3: changes", 4, () -> room.told(0, 1));
        checks.due("3: the thing lies there", 12, () -> room.thing(0, 0));
        checks.due("3: not in the other cupboard", 0, () -> room.thing(1, 0));
        checks.due("3: the other cupboard has no changes", 0, () -> room.told(1, 1));
        room.put(1, 3, 5);
        int root = room.sum(1, 1);
        checks.due("3: a thing of the same sum", 5, () -> room.put(1, 3, 1002));
        checks.due("3: its root is the same", root, () -> room.sum(1, 1));
        checks.due("3: it is a change", 2, () -> room.told(1, 1));
    }

    private static void putRefuses() {
        SealedCupboards room = Checks.roomOf(1);
        room.put(0, 0, 7);
        checks.refused(room, "3: cupboard -1", Checks.INDEX, () -> room.put(-1, 0, 0));
        checks.refused(room, "3: cupboard 1 of 1", Checks.INDEX, () -> room.put(1, 0, 0));
        checks.refused(room, "3: drawer -1", Checks.INDEX, () -> room.put(0, -1, 0));
        checks.refused(room, "3: drawer 16", Checks.INDEX, () -> room.put(0, 16, 0));
        checks.refused(room, "3: thing -1", Checks.ARGUMENT, () -> room.put(0, 0, -1));
        checks.refused(room, "3: thing 10000", Checks.ARGUMENT, () -> room.put(0, 0, 10000));
        checks.refused(room, "3: cupboard before thing", Checks.INDEX, () -> room.put(1, 0, -1));
        checks.refused(room, "3: drawer before thing", Checks.INDEX, () -> room.put(0, 16, 10000));
        checks.refused(room, "3: far off", Checks.INDEX, () -> room.put(Integer.MIN_VALUE, Integer.MAX_VALUE, 0));
    }

    private static void swap() {
        SealedCupboards room = Checks.roomOf(1);
        room.put(0, 0, 5);
        room.put(0, 15, 27);
        checks.due("4: swap of the outermost: 2 drawers, 6 below the root, the root", 9, () -> room.swap(0, 0, 15));
        checks.due("4: first thing", 27, () -> room.thing(0, 0));
        checks.due("4: last thing", 5, () -> room.thing(0, 15));
        checks.due("4: two changes", 4, () -> room.told(0, 1));
        checks.due("4: swap back", 9, () -> room.swap(0, 15, 0));
        checks.due("4: swap of neighbours: 2 drawers and 4 above", 6, () -> room.swap(0, 0, 1));
        checks.due("4: the thing went", 0, () -> room.thing(0, 0));
        checks.due("4: the thing came", 5, () -> room.thing(0, 1));
        checks.due("4: changes", 8, () -> room.told(0, 1));
    }

    private static void swapOfLikeSums() {
        SealedCupboards room = Checks.roomOf(1);
        room.put(0, 2, 8);
        checks.due("4: swap with itself", 0, () -> room.swap(0, 2, 2));
        checks.due("4: swap of like things", 0, () -> room.swap(0, 3, 4));
        checks.due("4: no changes", 1, () -> room.told(0, 1));
        room.put(0, 9, 8 + 997);
        checks.due("4: swap of things with like sums", 0, () -> room.swap(0, 2, 9));
        checks.due("4: the things went all the same", 1005, () -> room.thing(0, 2));
        checks.due("4: two changes", 4, () -> room.told(0, 1));
    }

    private static void swapRefuses() {
        SealedCupboards room = Checks.roomOf(1);
        room.put(0, 0, 7);
        checks.refused(room, "4: cupboard -1", Checks.INDEX, () -> room.swap(-1, 0, 1));
        checks.refused(room, "4: cupboard 1 of 1", Checks.INDEX, () -> room.swap(1, 0, 1));
        checks.refused(room, "4: a -1", Checks.INDEX, () -> room.swap(0, -1, 0));
        checks.refused(room, "4: a 16", Checks.INDEX, () -> room.swap(0, 16, 0));
        checks.refused(room, "4: b -1", Checks.INDEX, () -> room.swap(0, 0, -1));
        checks.refused(room, "4: b 16", Checks.INDEX, () -> room.swap(0, 0, 16));
        checks.refused(room, "4: both alike and wrong", Checks.INDEX, () -> room.swap(0, 16, 16));
    }

    private static void sum() {
        SealedCupboards room = Checks.roomOf(1);
        int[] empty = {0, 382, 688, 877, 854, 509, 164, 816, 219, 610, 4, 395, 786, 180, 571, 962,
            101, 202, 303, 404, 505, 606, 707, 808, 909, 13, 114, 215, 316, 417, 518, 619};
        int[] filled = {0, 909, 153, 219, 502, 509, 164, 775, 867, 610, 4, 395, 786, 180, 571, 267,
            177, 202, 303, 404, 505, 606, 707, 808, 909, 13, 114, 215, 316, 417, 518, 656};
        sumsAre(room, empty);
        room.put(0, 0, 9999);
        room.put(0, 15, 1);
        sumsAre(room, filled);
        checks.refused(room, "5: place 0", Checks.INDEX, () -> room.sum(0, 0));
        checks.refused(room, "5: place -1", Checks.INDEX, () -> room.sum(0, -1));
        checks.refused(room, "5: place 32", Checks.INDEX, () -> room.sum(0, 32));
        checks.refused(room, "5: cupboard -1", Checks.INDEX, () -> room.sum(-1, 1));
        checks.refused(room, "5: cupboard 1 of 1", Checks.INDEX, () -> room.sum(1, 1));
    }

    private static void sumsAre(SealedCupboards room, int[] want) {
        for (int place = 1; place <= 31; place++) {
            int asked = place;
            checks.due("5: sum at " + place, want[place], () -> room.sum(0, asked));
        }
    }

    private static void told() {
        SealedCupboards room = Checks.roomOf(6);
        room.put(5, 0, 9999);
        room.put(5, 15, 1);
        room.put(5, 7, 3);
        room.put(5, 7, 0);
        int[] want = {909, 4, 2, 10000, 0, 0};
        for (int what = 0; what < 6; what++) {
            int asked = what;
            checks.due("6: told " + what, want[what], () -> room.told(5, asked));
        }
        checks.due("6: an empty cupboard's root", 382, () -> room.told(0, 0));
        checks.refused(room, "6: what -1", Checks.INDEX, () -> room.told(0, -1));
        checks.refused(room, "6: what 6", Checks.INDEX, () -> room.told(0, 6));
        checks.refused(room, "6: cupboard -1", Checks.INDEX, () -> room.told(-1, 0));
        checks.refused(room, "6: cupboard 6", Checks.INDEX, () -> room.told(6, 0));
    }

    private static void toldOfSeals() {
        SealedCupboards room = Checks.roomOf(2);
        room.seal(0);
        room.seal(1);
        room.seal(0);
        checks.due("6: seals of the first", 2, () -> room.told(0, 4));
        checks.due("6: seals of the second", 1, () -> room.told(1, 4));
        checks.due("6: it keeps both, and not the other's", 2, () -> room.told(0, 5));
        checks.due("6: the second keeps its own", 1, () -> room.told(1, 5));
        room.put(0, 4, 1);
        room.seal(0);
        checks.due("6: three seals", 3, () -> room.told(0, 4));
        checks.due("6: it keeps the last", 1, () -> room.told(0, 5));
        room.put(0, 4, 997);
        checks.due("6: it keeps those of the same root", 2, () -> room.told(0, 5));
        room.put(0, 4, 2);
        checks.due("6: it keeps none", 0, () -> room.told(0, 5));
    }

    private static void thing() {
        SealedCupboards room = Checks.roomOf(2);
        for (int drawer = 0; drawer < 16; drawer++) {
            room.put(1, drawer, 9984 + drawer);
        }
        for (int drawer = 0; drawer < 16; drawer++) {
            int asked = drawer;
            checks.due("7: thing in " + drawer, 9984 + drawer, () -> room.thing(1, asked));
            checks.due("7: nothing in " + drawer, 0, () -> room.thing(0, asked));
        }
        checks.refused(room, "7: drawer -1", Checks.INDEX, () -> room.thing(0, -1));
        checks.refused(room, "7: drawer 16", Checks.INDEX, () -> room.thing(0, 16));
        checks.refused(room, "7: cupboard -1", Checks.INDEX, () -> room.thing(-1, 0));
        checks.refused(room, "7: cupboard 2 of 2", Checks.INDEX, () -> room.thing(2, 0));
    }
}
