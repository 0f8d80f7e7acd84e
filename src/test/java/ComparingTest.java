/** Promises 13 to 19: differ, looks, mend, swapped, count, mean, digest. */
public final class ComparingTest {
    private static final Checks checks = new Checks();

    public static void main(String[] args) {
        compare();
        compareWhereSumsHide();
        compareRefuses();
        mend();
        mendLeavesWhatIsHidden();
        swapped();
        swappedByPuts();
        swappedInItsCupboard();
        swappedIsTheLeast();
        swappedRefuses();
        count();
        mean();
        digest();
        checks.end("ComparingTest");
    }

    private static void compare() {
        SealedCupboards room = Checks.roomOf(2);
        checks.due("13: alike", 0, () -> room.differ(0, 1));
        checks.due("14: alike", 1, () -> room.looks(0, 1));
        room.put(0, 0, 5);
        checks.due("13: the first drawer", 1, () -> room.differ(0, 1));
        checks.due("14: the root and two places on each of 4 floors", 9, () -> room.looks(0, 1));
        room.put(1, 15, 27);
        checks.due("13: the outermost", 32769, () -> room.differ(0, 1));
        checks.due("13: the other way round", 32769, () -> room.differ(1, 0));
        checks.due("14: the outermost", 15, () -> room.looks(0, 1));
        checks.due("14: the other way round", 15, () -> room.looks(1, 0));
        checks.due("13: beside itself", 0, () -> room.differ(0, 0));
        checks.due("14: beside itself", 1, () -> room.looks(1, 1));
        for (int drawer = 0; drawer < 16; drawer++) {
            room.put(0, drawer, 613 * drawer + 1);
        }
        checks.due("13: all", 65535, () -> room.differ(0, 1));
        checks.due("14: all", 31, () -> room.looks(0, 1));
        room.put(1, 3, 613 * 3 + 1 + 997);
        checks.due("13: a thing of the same sum", 65527, () -> room.differ(0, 1));
    }

    /** The things 1 and 425 in the drawers 0 and 1 make the same sum at the place 8 as 0 and 0 do. */
    private static SealedCupboards roomWithHidden() {
        SealedCupboards room = Checks.roomOf(2);
        room.put(0, 0, 1);
        room.put(0, 1, 425);
        return room;
    }

    private static void compareWhereSumsHide() {
        SealedCupboards room = roomWithHidden();
        checks.due("13: hidden below place 8", 0, () -> room.differ(0, 1));
        checks.due("14: hidden below place 8", 1, () -> room.looks(0, 1));
        room.put(0, 2, 5);
        checks.due("13: only what is beside it", 4, () -> room.differ(0, 1));
        checks.due("14: only what is beside it", 9, () -> room.looks(0, 1));
    }

    private static void compareRefuses() {
        SealedCupboards room = Checks.roomOf(1);
        for (int wrong : new int[] {-1, 1, 6, Integer.MIN_VALUE, Integer.MAX_VALUE}) {
            checks.refused(room, "13: first " + wrong, Checks.INDEX, () -> room.differ(wrong, 0));
            checks.refused(room, "13: second " + wrong, Checks.INDEX, () -> room.differ(0, wrong));
            checks.refused(room, "14: first " + wrong, Checks.INDEX, () -> room.looks(wrong, 0));
            checks.refused(room, "14: second " + wrong, Checks.INDEX, () -> room.looks(0, wrong));
            checks.refused(room, "15: first " + wrong, Checks.INDEX, () -> room.mend(wrong, 0));
            checks.refused(room, "15: second " + wrong, Checks.INDEX, () -> room.mend(0, wrong));
        }
        checks.refused(room, "13: both wrong", Checks.INDEX, () -> room.differ(1, 1));
    }

    private static void mend() {
        SealedCupboards room = Checks.roomOf(2);
        checks.due("15: alike", 0, () -> room.mend(0, 1));
        room.put(0, 0, 5);
        room.put(1, 7, 8);
        room.put(0, 15, 9999);
        room.put(0, 3, 6);
        room.put(1, 3, 6 + 997);
        checks.due("15: beside itself", 0, () -> room.mend(0, 0));
        checks.due("15: mend", 3, () -> room.mend(0, 1));
        checks.due("15: the second got it", 9999, () -> room.thing(1, 15));
        checks.due("15: the second lost it", 0, () -> room.thing(1, 7));
        checks.due("15: the second one keeps what has the same sum", 1003, () -> room.thing(1, 3));
        checks.due("15: the first is as it was", 3, () -> room.told(0, 1));
        checks.due("15: the second's changes", 5, () -> room.told(1, 1));
        checks.due("15: nothing differs", 0, () -> room.differ(0, 1));
        checks.due("15: once more", 0, () -> room.mend(0, 1));
    }

    private static void mendLeavesWhatIsHidden() {
        SealedCupboards room = roomWithHidden();
        room.put(0, 2, 5);
        checks.due("15: what is found", 1, () -> room.mend(0, 1));
        checks.due("15: found", 5, () -> room.thing(1, 2));
        checks.due("15: hidden", 0, () -> room.thing(1, 0));
        checks.due("15: one change", 1, () -> room.told(1, 1));
    }

    private static SealedCupboards filledAndSealed() {
        SealedCupboards room = Checks.roomOf(1);
        for (int drawer = 0; drawer < 16; drawer++) {
            room.put(0, drawer, 613 * drawer);
        }
        room.seal(0);
        return room;
    }

    private static void swapped() {
        SealedCupboards room = filledAndSealed();
        checks.due("16: kept", -1, () -> room.swapped(0));
        room.swap(0, 2, 9);
        checks.due("16: the drawers 2 and 9", 41, () -> room.swapped(0));
        checks.due("16: asked again", 41, () -> room.swapped(0));
        checks.due("16: nothing is swapped back", 613 * 9, () -> room.thing(0, 2));
        checks.due("16: no change is counted", 17, () -> room.told(0, 1));
        room.swap(0, 4, 5);
        checks.due("16: two pairs", -1, () -> room.swapped(0));
        room.swap(0, 9, 2);
        checks.due("16: the drawers 4 and 5", 69, () -> room.swapped(0));
        room.seal(0);
        checks.due("16: the new seal is kept", -1, () -> room.swapped(1));
        checks.due("16: the old one not", 69, () -> room.swapped(0));
        room.swap(0, 5, 4);
        room.swap(0, 15, 14);
        checks.due("16: the last two drawers", 16 * 14 + 15, () -> room.swapped(0));
        room.swap(0, 15, 14);
        room.swap(0, 0, 1);
        checks.due("16: the first two drawers", 1, () -> room.swapped(0));
        room.swap(0, 0, 1);
        room.put(0, 7, 1000);
        checks.due("16: a thing put", -1, () -> room.swapped(0));
    }

    private static void swappedByPuts() {
        SealedCupboards room = filledAndSealed();
        room.put(0, 0, 613 * 14);
        room.put(0, 14, 0);
        checks.due("16: swapped by put and put", 14, () -> room.swapped(0));
    }

    /** A thing tells as much for the root in each drawer whose way goes as often to the right: 12 is as good as 3. */
    private static void swappedInItsCupboard() {
        SealedCupboards room = Checks.roomOf(2);
        room.put(1, 12, 7);
        room.seal(1);
        room.seal(0);
        room.swap(1, 12, 2);
        checks.due("16: one thing alone", 16 * 2 + 3, () -> room.swapped(0));
        checks.due("16: the other cupboard's seal is kept", -1, () -> room.swapped(1));
    }

    /** With these things more pairs than the one that was swapped come to the root of the seal by chance. */
    private static void swappedIsTheLeast() {
        SealedCupboards room = filledAndSealed();
        room.swap(0, 7, 12);
        checks.due("16: the least of 6 and 11, 7 and 12, 9 and 14", 16 * 6 + 11, () -> room.swapped(0));
        room.swap(0, 7, 12);
        room.swap(0, 3, 4);
        checks.due("16: the least of 3 and 4, 8 and 9", 16 * 3 + 4, () -> room.swapped(0));
        room.swap(0, 3, 4);
        room.swap(0, 3, 5);
        checks.due("16: the drawers 3 and 5 swapped keep the root", -1, () -> room.swapped(0));
    }

    private static void swappedRefuses() {
        SealedCupboards room = filledAndSealed();
        checks.refused(room, "16: seal -1", Checks.INDEX, () -> room.swapped(-1));
        checks.refused(room, "16: seal 1 of 1", Checks.INDEX, () -> room.swapped(1));
        checks.refused(room, "16: seal 20", Checks.INDEX, () -> room.swapped(20));
    }

    private static void count() {
        SealedCupboards room = Checks.roomOf(6);
        checks.due("17: cupboards", 6, () -> room.count(0));
        checks.due("17: one root", 1, () -> room.count(2));
        for (int cupboard = 0; cupboard < 6; cupboard++) {
            room.put(cupboard, 0, cupboard + 1);
        }
        checks.due("17: six roots", 6, () -> room.count(2));
        room.put(5, 0, 1);
        room.put(3, 0, 2);
        checks.due("17: four roots", 4, () -> room.count(2));
        checks.due("17: changes", 8, () -> room.count(3));
        room.seal(0);
        room.seal(0);
        checks.due("17: seals", 2, () -> room.count(1));
        checks.refused(room, "17: what -1", Checks.INDEX, () -> room.count(-1));
        checks.refused(room, "17: what 4", Checks.INDEX, () -> room.count(4));
    }

    private static void mean() {
        SealedCupboards room = new SealedCupboards();
        checks.due("18: without any", 0.0, room::mean);
        room.come();
        checks.due("18: an empty one", 14774.0 / 31.0, room::mean);
        room.come();
        checks.due("18: two empty ones", 29548.0 / 62.0, room::mean);
        room.put(1, 0, 9999);
        room.put(1, 15, 1);
        checks.due("18: an empty one and another", (14774.0 + 13781.0) / 62.0, room::mean);
    }

    private static void digest() {
        SealedCupboards room = new SealedCupboards();
        checks.due("19: of nothing", digestByCalls(room, 0, 0), room::digest);
        room.come();
        room.come();
        room.put(0, 0, 9999);
        room.put(1, 4, 40);
        room.swap(1, 4, 11);
        checks.due("19: without seals", digestByCalls(room, 2, 0), room::digest);
        room.seal(1);
        room.seal(0);
        room.put(1, 3, 2);
        checks.due("19: with all", digestByCalls(room, 2, 2), room::digest);
        checks.due("19: asked again", room.digest(), room::digest);
        checks.due("19: one cupboard", digestByCalls(Checks.roomOf(1), 1, 0), () -> Checks.roomOf(1).digest());
    }

    private static long digestByCalls(SealedCupboards room, int cupboards, int seals) {
        long d = 1277;
        for (int what = 0; what <= 3; what++) {
            d = d * 31 + room.count(what);
        }
        for (int cupboard = 0; cupboard < cupboards; cupboard++) {
            for (int what = 0; what <= 5; what++) {
                d = d * 31 + room.told(cupboard, what);
            }
            for (int drawer = 0; drawer <= 15; drawer++) {
                d = d * 31 + room.thing(cupboard, drawer);
            }
        }
        for (int seal = 0; seal < seals; seal++) {
            for (int what = 0; what <= 3; what++) {
                d = d * 31 + room.about(seal, what);
            }
        }
        return d;
    }
}
