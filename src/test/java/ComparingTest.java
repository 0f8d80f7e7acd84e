import java.math.BigInteger;

/** Promises 13 to 19: differ, looks, mend, swapped, count, mean, digest. What they refuse is in RefusalsTest. */
public final class ComparingTest {
    private static final Checks checks = new Checks();

    public static void main(String[] args) {
        compareAlike();
        compareWithItself();
        compareOneDrawer();
        compareOutermostDrawers();
        compareAllDrawers();
        compareThingsOfTheSameSum();
        compareBelowEqualSums();
        compareOfTheOutermostCupboards();
        mendAlike();
        mendWithItself();
        mend();
        mendAllDrawers();
        mendLeavesThingsOfTheSameSum();
        mendLeavesWhatIsHidden();
        swapped();
        swappedLeastAndGreatestPair();
        swappedKept();
        swappedKeptByChance();
        swappedNone();
        swappedOfLikeThings();
        swappedByPuts();
        swappedInItsCupboard();
        swappedIsTheLeast();
        swappedOfTheOutermostSeals();
        swappedChangesNothing();
        countOfTheEmptyRoom();
        countOfTheFullRoom();
        countOfRoots();
        countOfChanges();
        meanWithoutAny();
        mean();
        meanOfTheFullRoom();
        digestOfTheEmptyRoom();
        digest();
        digestOfAnEmptyCupboard();
        digestWrapsAround();
        checks.end("ComparingTest");
    }

    // ---- promises 13 and 14

    private static void comparisonIs(SealedCupboards room, String of, int differ, int looks) {
        checks.due("13: " + of, differ, () -> room.differ(0, 1));
        checks.due("13: " + of + ", the other way round", differ, () -> room.differ(1, 0));
        checks.due("14: " + of, looks, () -> room.looks(0, 1));
        checks.due("14: " + of + ", the other way round", looks, () -> room.looks(1, 0));
    }

    private static void compareAlike() {
        comparisonIs(Rooms.of(2), "empty ones", 0, 1);
        SealedCupboards room = Rooms.of(2);
        room.put(0, 0, 9999);
        room.put(1, 0, 9999);
        comparisonIs(room, "like ones", 0, 1);
    }

    private static void compareWithItself() {
        SealedCupboards room = Rooms.full();
        for (int cupboard = 0; cupboard < 6; cupboard++) {
            int asked = cupboard;
            checks.due("13: beside itself", 0, () -> room.differ(asked, asked));
            checks.due("14: beside itself", 1, () -> room.looks(asked, asked));
        }
    }

    /** The root and two places on each of the four floors below it are looked at. */
    private static void compareOneDrawer() {
        for (int drawer = 0; drawer <= 15; drawer++) {
            SealedCupboards room = Rooms.of(2);
            room.put(1, drawer, 1);
            comparisonIs(room, "the drawer " + drawer + " alone", 1 << drawer, 9);
        }
    }

    private static void compareOutermostDrawers() {
        SealedCupboards room = Rooms.of(2);
        room.put(0, 0, 5);
        room.put(1, 15, 27);
        comparisonIs(room, "the outermost", 32769, 15);
    }

    private static void compareAllDrawers() {
        SealedCupboards room = Rooms.of(2);
        for (int drawer = 0; drawer < 16; drawer++) {
            room.put(0, drawer, 9999);
        }
        comparisonIs(room, "all drawers", 65535, 31);
    }

    private static void compareThingsOfTheSameSum() {
        SealedCupboards room = Rooms.of(2);
        room.put(0, 0, 997);
        room.put(1, 15, 9970);
        comparisonIs(room, "nothing but things of the same sum", 0, 1);
        for (int drawer = 0; drawer < 16; drawer++) {
            room.put(0, drawer, 613 * drawer + 1);
        }
        room.put(1, 3, 613 * 3 + 1 + 997);
        comparisonIs(room, "all but a thing of the same sum", 65527, 31);
    }

    /** The things 1 in drawer 0 and 425 in one of these make the same sum above both as no things do. */
    private static void compareBelowEqualSums() {
        for (int other : new int[] {1, 2, 4, 8}) {
            SealedCupboards room = Rooms.of(2);
            room.put(0, 0, 1);
            room.put(0, other, 425);
            comparisonIs(room, "hidden, with drawer " + other, 0, 1);
        }
        SealedCupboards room = Rooms.of(2);
        room.put(0, 0, 1);
        room.put(0, 1, 425);
        room.put(0, 2, 5);
        comparisonIs(room, "only what is beside the hidden ones", 4, 9);
        room.put(0, 2, 0);
        room.put(0, 1, 0);
        room.put(0, 8, 425);
        room.put(0, 15, 5);
        comparisonIs(room, "all three, as the root tells of them now", 33025, 19);
    }

    private static void compareOfTheOutermostCupboards() {
        SealedCupboards room = Rooms.full();
        checks.due("13: first and last", 65535, () -> room.differ(0, 5));
        checks.due("13: last and first", 65535, () -> room.differ(5, 0));
        checks.due("14: first and last", 31, () -> room.looks(0, 5));
        checks.due("14: last and first", 31, () -> room.looks(5, 0));
        checks.due("13: first and third", 32768, () -> room.differ(0, 2));
        checks.due("14: first and third", 9, () -> room.looks(0, 2));
    }

    // ---- promise 15

    private static void mendAlike() {
        SealedCupboards room = Rooms.of(2);
        checks.due("15: empty ones", 0, () -> room.mend(0, 1));
        room.put(0, 15, 9999);
        room.put(1, 15, 9999);
        checks.due("15: like ones", 0, () -> room.mend(0, 1));
        checks.due("15: no changes", 2, () -> room.count(3));
    }

    private static void mendWithItself() {
        SealedCupboards room = Rooms.sealedOnce();
        checks.due("15: beside itself", 0, () -> room.mend(0, 0));
        checks.due("15: it is as it was", 9195, () -> room.thing(0, 15));
        checks.due("15: no changes", 15, () -> room.told(0, 1));
    }

    private static void mend() {
        SealedCupboards room = Rooms.of(2);
        room.put(0, 0, 5);
        room.put(1, 7, 8);
        room.put(0, 15, 9999);
        checks.due("15: mend", 3, () -> room.mend(0, 1));
        checks.due("15: the second got the first drawer's", 5, () -> room.thing(1, 0));
        checks.due("15: the second got the last drawer's", 9999, () -> room.thing(1, 15));
        checks.due("15: the second lost it", 0, () -> room.thing(1, 7));
        checks.due("15: the first is as it was", 2, () -> room.told(0, 1));
        checks.due("15: the first got nothing", 0, () -> room.thing(0, 7));
        checks.due("15: the second's changes", 4, () -> room.told(1, 1));
        checks.due("15: nothing differs", 0, () -> room.differ(0, 1));
        checks.due("15: once more", 0, () -> room.mend(0, 1));
    }

    private static void mendAllDrawers() {
        SealedCupboards room = Rooms.full();
        checks.due("15: the first like the last: all", 16, () -> room.mend(5, 0));
        checks.due("15: the first's root", 698, () -> room.sum(0, 1));
        checks.due("15: the first's things", 159984, () -> room.told(0, 3));
        checks.due("15: the last like an empty one: all", 16, () -> room.mend(1, 5));
        checks.due("15: the last's root", 382, () -> room.sum(5, 1));
        checks.due("15: the last's things", 0, () -> room.told(5, 2));
    }

    /** "in all drawers whose sums are found to differ" */
    private static void mendLeavesThingsOfTheSameSum() {
        SealedCupboards room = Rooms.of(2);
        room.put(0, 3, 6);
        room.put(1, 3, 6 + 997);
        checks.due("15: things of the same sum", 0, () -> room.mend(0, 1));
        room.put(0, 4, 1);
        checks.due("15: with another beside", 1, () -> room.mend(0, 1));
        checks.due("15: the second one keeps what has the same sum", 1003, () -> room.thing(1, 3));
        checks.due("15: the second's changes", 2, () -> room.told(1, 1));
    }

    private static void mendLeavesWhatIsHidden() {
        SealedCupboards room = Rooms.of(2);
        room.put(0, 0, 1);
        room.put(0, 1, 425);
        checks.due("15: hidden altogether", 0, () -> room.mend(0, 1));
        room.put(0, 2, 5);
        checks.due("15: what is found", 1, () -> room.mend(0, 1));
        checks.due("15: found", 5, () -> room.thing(1, 2));
        checks.due("15: hidden", 0, () -> room.thing(1, 0));
        checks.due("15: one change", 1, () -> room.told(1, 1));
    }

    // ---- promise 16

    private static void swapped() {
        SealedCupboards room = Rooms.sealedOnce();
        room.swap(0, 2, 9);
        checks.due("16: the drawers 2 and 9", 41, () -> room.swapped(0));
        room.swap(0, 4, 5);
        checks.due("16: two pairs", -1, () -> room.swapped(0));
        room.swap(0, 9, 2);
        checks.due("16: the drawers 4 and 5", 69, () -> room.swapped(0));
        room.seal(0);
        checks.due("16: the new seal is kept", -1, () -> room.swapped(1));
        checks.due("16: the old one not", 69, () -> room.swapped(0));
    }

    /** "16 * the first one and the second one, added": from 1 to 239 */
    private static void swappedLeastAndGreatestPair() {
        SealedCupboards first = Rooms.sealedOnce();
        first.swap(0, 0, 1);
        checks.due("16: the first two drawers", 1, () -> first.swapped(0));
        SealedCupboards last = Rooms.sealedOnce();
        last.swap(0, 15, 14);
        checks.due("16: the last two drawers", 239, () -> last.swapped(0));
        SealedCupboards outermost = Rooms.sealedOnce();
        outermost.swap(0, 15, 0);
        checks.due("16: the outermost drawers", 15, () -> outermost.swapped(0));
    }

    /** "-1 if there are none, or the cupboard keeps the seal" */
    private static void swappedKept() {
        SealedCupboards room = Rooms.sealedOnce();
        checks.due("16: kept", -1, () -> room.swapped(0));
        room.swap(0, 2, 9);
        room.swap(0, 2, 9);
        checks.due("16: kept again", -1, () -> room.swapped(0));
        checks.due("16: an empty cupboard", -1, () -> Rooms.of(1, 1).swapped(0));
    }

    /** The root is the same, though things were swapped; and there are pairs whose swapping leaves it the same, too. */
    private static void swappedKeptByChance() {
        SealedCupboards room = Rooms.sealedOnce();
        room.swap(0, 3, 5);
        checks.due("16: the drawers 3 and 5 swapped keep the root", -1, () -> room.swapped(0));
        checks.due("16: so it keeps the seal", 1, () -> room.told(0, 5));
    }

    private static void swappedNone() {
        SealedCupboards room = Rooms.sealedOnce();
        room.put(0, 7, 1000);
        checks.due("16: a thing put", -1, () -> room.swapped(0));
    }

    private static void swappedOfLikeThings() {
        SealedCupboards room = Rooms.of(1, 1);
        for (int drawer = 0; drawer < 16; drawer++) {
            room.put(0, drawer, 1);
        }
        checks.due("16: no swap makes another root", -1, () -> room.swapped(0));
    }

    private static void swappedByPuts() {
        SealedCupboards room = Rooms.sealedOnce();
        room.put(0, 0, 613 * 14);
        room.put(0, 14, 0);
        checks.due("16: swapped by put and put", 14, () -> room.swapped(0));
    }

    /** A thing tells as much for the root in each drawer whose way goes as often to the right: 12 is as good as 3. */
    private static void swappedInItsCupboard() {
        SealedCupboards room = Rooms.of(2);
        room.put(1, 12, 7);
        room.seal(1);
        room.seal(0);
        room.swap(1, 12, 2);
        checks.due("16: one thing alone", 16 * 2 + 3, () -> room.swapped(0));
        checks.due("16: the other cupboard's seal is kept", -1, () -> room.swapped(1));
    }

    /** "of several the least": with these things more pairs than the one that was swapped come to the seal's root. */
    private static void swappedIsTheLeast() {
        SealedCupboards room = Rooms.sealedOnce();
        room.swap(0, 7, 12);
        checks.due("16: the least of 6 and 11, 7 and 12, 9 and 14", 16 * 6 + 11, () -> room.swapped(0));
        room.swap(0, 7, 12);
        room.swap(0, 3, 4);
        checks.due("16: the least of 3 and 4, 8 and 9", 16 * 3 + 4, () -> room.swapped(0));
    }

    private static void swappedOfTheOutermostSeals() {
        SealedCupboards room = Rooms.of(6, 19);
        for (int drawer = 0; drawer < 16; drawer++) {
            room.put(5, drawer, 613 * drawer);
        }
        room.seal(5);
        checks.due("16: just below the seals", Checks.INDEX, () -> room.swapped(-1));
        checks.due("16: the first of 20", -1, () -> room.swapped(0));
        checks.due("16: the last of 20, kept", -1, () -> room.swapped(19));
        room.swap(5, 14, 15);
        checks.due("16: the last of 20, not kept", 239, () -> room.swapped(19));
        checks.due("16: just above the seals", Checks.INDEX, () -> room.swapped(20));
    }

    /** "(nothing is changed)" */
    private static void swappedChangesNothing() {
        SealedCupboards room = Rooms.sealedOnce();
        room.swap(0, 2, 9);
        String before = Rooms.story(room);
        checks.due("16: the drawers 2 and 9, asked for", 41, () -> room.swapped(0));
        checks.same("16: nothing is changed when a pair is found", "", Rooms.firstChange(before, Rooms.story(room)));
        room.put(0, 7, 1000);
        String later = Rooms.story(room);
        checks.due("16: no pair, asked for", -1, () -> room.swapped(0));
        checks.same("16: nothing is changed when none is found", "", Rooms.firstChange(later, Rooms.story(room)));
    }

    // ---- promise 17

    private static void countIs(SealedCupboards room, String of, int... want) {
        for (int what = 0; what <= 3; what++) {
            int asked = what;
            checks.due("17: " + of + ", " + what, want[what], () -> room.count(asked));
        }
    }

    private static void countOfTheEmptyRoom() {
        countIs(new SealedCupboards(), "an empty room", 0, 0, 0, 0);
        countIs(Rooms.of(1), "a room with an empty cupboard", 1, 0, 1, 0);
    }

    private static void countOfTheFullRoom() {
        countIs(Rooms.full(), "a full room", 6, 20, 4, 34);
        countIs(Rooms.of(6, 20), "a full room of empty cupboards", 6, 20, 1, 0);
    }

    /** "different roots of cupboards" */
    private static void countOfRoots() {
        SealedCupboards room = Rooms.of(6);
        checks.due("17: one root", 1, () -> room.count(2));
        for (int cupboard = 0; cupboard < 6; cupboard++) {
            room.put(cupboard, 0, cupboard + 1);
        }
        checks.due("17: six roots", 6, () -> room.count(2));
        room.put(5, 0, 1);
        checks.due("17: the last like the first", 5, () -> room.count(2));
        room.put(3, 0, 2);
        checks.due("17: two pairs", 4, () -> room.count(2));
        room.put(4, 0, 998);
        checks.due("17: one more by a thing of the same sum", 3, () -> room.count(2));
        room.put(1, 0, 0);
        room.put(1, 1, 1);
        room.put(3, 0, 0);
        room.put(3, 2, 1);
        checks.due("17: like roots over things that lie elsewhere", 3, () -> room.count(2));
    }

    private static void countOfChanges() {
        SealedCupboards room = Rooms.of(6);
        room.put(0, 0, 1);
        room.put(5, 15, 9999);
        room.put(5, 15, 9999);
        checks.due("17: changes of the first and the last", 2, () -> room.count(3));
        room.swap(5, 0, 15);
        checks.due("17: changes with a swap", 4, () -> room.count(3));
        room.mend(0, 5);
        checks.due("17: changes with a mend", 5, () -> room.count(3));
    }

    // ---- promise 18

    /** "0 without any" */
    private static void meanWithoutAny() {
        checks.due("18: without any", 0.0, () -> new SealedCupboards().mean());
        SealedCupboards room = new SealedCupboards();
        checks.due("18: no seal of none", Checks.INDEX, () -> room.seal(0));
        checks.due("18: still without any", 0.0, room::mean);
    }

    private static void mean() {
        SealedCupboards room = new SealedCupboards();
        room.come();
        checks.due("18: an empty one", 14774.0 / 31.0, room::mean);
        room.come();
        checks.due("18: two empty ones", 29548.0 / 62.0, room::mean);
        room.put(1, 0, 9999);
        room.put(1, 15, 1);
        checks.due("18: an empty one and another", (14774.0 + 13781.0) / 62.0, room::mean);
    }

    private static void meanOfTheFullRoom() {
        checks.due("18: a full room", 87707.0 / 186.0, () -> Rooms.full().mean());
        SealedCupboards room = Rooms.full();
        for (int cupboard = 0; cupboard < 5; cupboard++) {
            room.mend(5, cupboard);
        }
        checks.due("18: the greatest thing everywhere", 14997.0 / 31.0, room::mean);
    }

    // ---- promise 19

    private static void digestOfTheEmptyRoom() {
        checks.due("19: of nothing: 1277, and four times 0", 1277L * 31 * 31 * 31 * 31,
            () -> new SealedCupboards().digest());
    }

    private static void digest() {
        SealedCupboards room = Rooms.of(2);
        room.put(0, 0, 9999);
        room.put(1, 4, 40);
        room.swap(1, 4, 11);
        checks.due("19: without seals", digestByCalls(room).longValue(), room::digest);
        room.seal(1);
        room.seal(0);
        room.put(1, 3, 2);
        checks.due("19: with all", digestByCalls(room).longValue(), room::digest);
        checks.due("19: asked again", room.digest(), room::digest);
    }

    private static void digestOfAnEmptyCupboard() {
        checks.due("19: one empty cupboard", digestByCalls(Rooms.of(1)).longValue(), () -> Rooms.of(1).digest());
        checks.due("19: with a seal", digestByCalls(Rooms.of(1, 1)).longValue(), () -> Rooms.of(1, 1).digest());
    }

    /** "which wraps around as a 64-bit integer" */
    private static void digestWrapsAround() {
        BigInteger unbounded = digestByCalls(Rooms.full());
        checks.same("19: the full room's digest wraps around", "true", String.valueOf(unbounded.bitLength() > 64));
        checks.due("19: the full room", unbounded.longValue(), () -> Rooms.full().digest());
        checks.due("19: the full room of empty cupboards", digestByCalls(Rooms.of(6, 20)).longValue(),
            () -> Rooms.of(6, 20).digest());
    }

    /** Without any wrapping around; its last 64 bits are the digest. */
    private static BigInteger digestByCalls(SealedCupboards room) {
        BigInteger d = BigInteger.valueOf(1277);
        for (int what = 0; what <= 3; what++) {
            d = next(d, room.count(what));
        }
        int cupboards = room.count(0);
        for (int cupboard = 0; cupboard < cupboards; cupboard++) {
            for (int what = 0; what <= 5; what++) {
                d = next(d, room.told(cupboard, what));
            }
            for (int drawer = 0; drawer <= 15; drawer++) {
                d = next(d, room.thing(cupboard, drawer));
            }
        }
        int seals = room.count(1);
        for (int seal = 0; seal < seals; seal++) {
            for (int what = 0; what <= 3; what++) {
                d = next(d, room.about(seal, what));
            }
        }
        return d;
    }

    private static BigInteger next(BigInteger d, int x) {
        return d.multiply(BigInteger.valueOf(31)).add(BigInteger.valueOf(x));
    }
}
