/** Promises 8 to 12: seal, about, proof, comes, proves. What they refuse is in RefusalsTest. */
public final class SealsTest {
    private static final Checks checks = new Checks();

    public static void main(String[] args) {
        seal();
        sealFillsTheRoom();
        sealOfOneCupboardOnly();
        sealOfTheEmptyCupboard();
        sealKeepsItsDay();
        about();
        aboutTheOutermostSeals();
        aboutChangesOfAnother();
        proof();
        proofIsOfNow();
        proofInEveryCorner();
        comesFromLeastAndMost();
        comesFromEachSumAlone();
        comesToLeastAndMost();
        comesInTurns();
        proofsCome();
        proves();
        provesByTheProofOfNow();
        provesInEveryCorner();
        checks.end("SealsTest");
    }

    // ---- promise 8

    /** "There are at most 20, numbered likewise" */
    private static void seal() {
        SealedCupboards room = Rooms.of(6);
        for (int number = 0; number < 20; number++) {
            int cupboard = number % 6;
            int seal = number;
            checks.due("8: seal", number, () -> room.seal(cupboard));
            checks.due("8: seal counts", number + 1, () -> room.count(1));
            checks.due("8: it is of its cupboard", cupboard, () -> room.about(seal, 0));
        }
    }

    private static void sealFillsTheRoom() {
        SealedCupboards room = Rooms.of(6, 19);
        room.put(5, 0, 1);
        checks.due("8: the last one", 19, () -> room.seal(5));
        int root = room.sum(5, 1);
        checks.due("8: one too many", Checks.STATE, () -> room.seal(0));
        checks.due("8: one too many of the last one's cupboard", Checks.STATE, () -> room.seal(5));
        checks.due("8: there are 20", 20, () -> room.count(1));
        checks.due("8: the last one is of its cupboard", 5, () -> room.about(19, 0));
        checks.due("8: the last one has its root", root, () -> room.about(19, 1));
    }

    private static void sealOfOneCupboardOnly() {
        SealedCupboards room = Rooms.of(1);
        for (int number = 0; number < 20; number++) {
            checks.due("8: seal of one cupboard, unchanged", number, () -> room.seal(0));
        }
        checks.due("8: too many of one cupboard", Checks.STATE, () -> room.seal(0));
    }

    private static void sealOfTheEmptyCupboard() {
        SealedCupboards room = Rooms.of(6);
        checks.due("8: seal of the last, empty", 0, () -> room.seal(5));
        checks.due("8: its root", 382, () -> room.about(0, 1));
        checks.due("8: its changes", 0, () -> room.about(0, 2));
    }

    /** "the cupboard that was sealed, its root then, and the number of changes that this cupboard had had by then" */
    private static void sealKeepsItsDay() {
        SealedCupboards room = Rooms.sealedOnce();
        int root = room.sum(0, 1);
        room.put(0, 3, 9999);
        room.swap(0, 0, 15);
        checks.due("8: the root of then", root, () -> room.about(0, 1));
        checks.due("8: the changes of then", 15, () -> room.about(0, 2));
        checks.due("8: the second seal", 1, () -> room.seal(0));
        checks.due("8: the changes of the second day", 18, () -> room.about(1, 2));
        checks.due("8: sealing is no change", 18, () -> room.told(0, 1));
    }

    // ---- promise 9

    private static void aboutIs(SealedCupboards room, int seal, String which, int... want) {
        for (int what = 0; what <= 3; what++) {
            int asked = what;
            checks.due("9: about " + which + ", " + what, want[what], () -> room.about(seal, asked));
        }
    }

    private static void about() {
        SealedCupboards room = Rooms.of(3);
        room.put(2, 0, 9999);
        room.put(2, 15, 1);
        room.seal(2);
        room.put(2, 15, 1);
        room.put(2, 3, 4);
        room.swap(2, 3, 4);
        room.seal(2);
        room.seal(0);
        aboutIs(room, 0, "the first", 2, 909, 2, 3);
        aboutIs(room, 1, "the second", 2, room.sum(2, 1), 5, 0);
        aboutIs(room, 2, "the third", 0, 382, 0, 0);
    }

    private static void aboutTheOutermostSeals() {
        SealedCupboards room = Rooms.full();
        checks.due("9: just below the seals", Checks.INDEX, () -> room.about(-1, 0));
        aboutIs(room, 0, "the first of 20", 0, 382, 0, 0);
        aboutIs(room, 16, "the one of a changed cupboard", 4, 471, 15, 2);
        aboutIs(room, 19, "the last of 20", 5, 698, 16, 0);
        checks.due("9: just above the seals", Checks.INDEX, () -> room.about(20, 0));
    }

    private static void aboutChangesOfAnother() {
        SealedCupboards room = Rooms.of(2, 2);
        room.put(1, 0, 1);
        aboutIs(room, 0, "the seal of the one that is unchanged", 0, 382, 0, 0);
        checks.due("9: changes of the other since then", 1, () -> room.about(1, 3));
        room.put(1, 0, 0);
        checks.due("9: changes back count as well", 2, () -> room.about(1, 3));
    }

    // ---- promise 10

    /** "that beside its own place, that beside the place above it, and so on; the one below the root last" */
    private static void proof() {
        SealedCupboards room = Rooms.of(2);
        int[] first = {202, 610, 509, 877};
        int[] sixth = {505, 395, 854, 877};
        int[] last = {518, 571, 164, 688};
        for (int step = 0; step < 4; step++) {
            int asked = step;
            checks.due("10: proof of 0, " + step, first[step], () -> room.proof(1, 0, asked));
            checks.due("10: proof of 5, " + step, sixth[step], () -> room.proof(1, 5, asked));
            checks.due("10: proof of 15, " + step, last[step], () -> room.proof(1, 15, asked));
        }
    }

    /** "Returns it, as it is now." */
    private static void proofIsOfNow() {
        SealedCupboards room = Rooms.of(2, 2);
        room.put(1, 0, 9999);
        room.put(1, 15, 1);
        checks.due("10: the proof is that of now", 219, () -> room.proof(1, 0, 3));
        checks.due("10: the drawer's own thing is not in it", 202, () -> room.proof(1, 0, 0));
        checks.due("10: the other cupboard's is as it was", 877, () -> room.proof(0, 0, 3));
    }

    private static void proofInEveryCorner() {
        SealedCupboards room = Rooms.full();
        checks.due("10: just below the steps", Checks.INDEX, () -> room.proof(0, 0, -1));
        checks.due("10: first cupboard, first drawer, first step", 202, () -> room.proof(0, 0, 0));
        checks.due("10: first cupboard, first drawer, last step", 877, () -> room.proof(0, 0, 3));
        checks.due("10: first cupboard, last drawer, first step", 518, () -> room.proof(0, 15, 0));
        checks.due("10: first cupboard, last drawer, last step", 688, () -> room.proof(0, 15, 3));
        checks.due("10: last cupboard, first drawer, first step", 278, () -> room.proof(5, 0, 0));
        checks.due("10: last cupboard, first drawer, last step", 693, () -> room.proof(5, 0, 3));
        checks.due("10: last cupboard, last drawer, first step", 594, () -> room.proof(5, 15, 0));
        checks.due("10: last cupboard, last drawer, last step", 504, () -> room.proof(5, 15, 3));
        checks.due("10: just above the steps", Checks.INDEX, () -> room.proof(5, 15, 4));
    }

    // ---- promise 11

    private static void comesFromLeastAndMost() {
        SealedCupboards room = new SealedCupboards();
        checks.due("11: least of all", 218, () -> room.comes(0, 0, 0, 0, 0, 0));
        checks.due("11: first drawer, no thing, greatest sums", 422, () -> room.comes(0, 0, 996, 996, 996, 996));
        checks.due("11: first drawer, greatest thing, no sums", 484, () -> room.comes(0, 9999, 0, 0, 0, 0));
        checks.due("11: first drawer, greatest of all", 688, () -> room.comes(0, 9999, 996, 996, 996, 996));
        checks.due("11: last drawer, least of all", 345, () -> room.comes(15, 0, 0, 0, 0, 0));
        checks.due("11: last drawer, no thing, greatest sums", 696, () -> room.comes(15, 0, 996, 996, 996, 996));
        checks.due("11: last drawer, greatest thing, no sums", 935, () -> room.comes(15, 9999, 0, 0, 0, 0));
        checks.due("11: last drawer, greatest of all", 289, () -> room.comes(15, 9999, 996, 996, 996, 996));
    }

    private static void comesFromEachSumAlone() {
        SealedCupboards room = new SealedCupboards();
        checks.due("11: first drawer, a alone", 123, () -> room.comes(0, 0, 996, 0, 0, 0));
        checks.due("11: first drawer, b alone", 53, () -> room.comes(0, 0, 0, 996, 0, 0));
        checks.due("11: first drawer, c alone", 771, () -> room.comes(0, 0, 0, 0, 996, 0));
        checks.due("11: first drawer, d alone", 129, () -> room.comes(0, 0, 0, 0, 0, 996));
        checks.due("11: last drawer, a alone", 837, () -> room.comes(15, 0, 996, 0, 0, 0));
        checks.due("11: last drawer, b alone", 709, () -> room.comes(15, 0, 0, 996, 0, 0));
        checks.due("11: last drawer, c alone", 898, () -> room.comes(15, 0, 0, 0, 996, 0));
        checks.due("11: last drawer, d alone", 284, () -> room.comes(15, 0, 0, 0, 0, 996));
    }

    /** The root is a remainder, too: from 0 to 996. */
    private static void comesToLeastAndMost() {
        SealedCupboards room = new SealedCupboards();
        checks.due("11: least root", 0, () -> room.comes(0, 0, 0, 0, 0, 244));
        checks.due("11: greatest root", 996, () -> room.comes(0, 0, 0, 0, 0, 300));
        checks.due("11: least root by a thing", 0, () -> room.comes(15, 904, 0, 0, 0, 0));
        checks.due("11: greatest root by a thing", 996, () -> room.comes(15, 713, 0, 0, 0, 0));
    }

    /** "with each sum of the proof to the left or to the right, as the places lie" */
    private static void comesInTurns() {
        SealedCupboards room = new SealedCupboards();
        checks.due("11: left and right in turn", 669, () -> room.comes(5, 7, 1, 2, 3, 4));
        checks.due("11: right and left in turn", 98, () -> room.comes(10, 7, 1, 2, 3, 4));
    }

    private static void proofsCome() {
        SealedCupboards room = Rooms.sealedOnce();
        int root = room.sum(0, 1);
        for (int drawer = 0; drawer < 16; drawer++) {
            int d = drawer;
            checks.due("11: the proof of " + drawer + " comes to the root", root, () -> room.comes(d, 613 * d,
                room.proof(0, d, 0), room.proof(0, d, 1), room.proof(0, d, 2), room.proof(0, d, 3)));
        }
    }

    // ---- promise 12

    private static SealedCupboards oneEmptyOneFilled() {
        SealedCupboards room = Rooms.of(2);
        for (int drawer = 0; drawer < 16; drawer++) {
            room.put(1, drawer, 600 * drawer + 999);
        }
        room.seal(0);
        room.seal(1);
        return room;
    }

    private static void proves() {
        SealedCupboards room = oneEmptyOneFilled();
        for (int drawer = 0; drawer < 16; drawer++) {
            int d = drawer;
            checks.due("12: its thing in " + d, true, () -> room.proves(1, d, 600 * d + 999));
            checks.due("12: another thing in " + d, false, () -> room.proves(1, d, 600 * d + 998));
            checks.due("12: a thing of the same sum in " + d, true, () -> room.proves(1, d, 600 * d + 2));
            checks.due("12: nothing in an empty cupboard's " + d, true, () -> room.proves(0, d, 0));
            checks.due("12: a thing in an empty cupboard's " + d, false, () -> room.proves(0, d, 1));
        }
    }

    /** "with the proof of this drawer as it is now in the cupboard of the seal" */
    private static void provesByTheProofOfNow() {
        SealedCupboards room = oneEmptyOneFilled();
        room.put(1, 5, 1);
        checks.due("12: the thing of that day, proven still", true, () -> room.proves(1, 5, 3999));
        checks.due("12: the thing of now was not there", false, () -> room.proves(1, 5, 1));
        checks.due("12: other drawers' proofs are those of now", false, () -> room.proves(1, 4, 3399));
        checks.due("12: the other seal is as it was", true, () -> room.proves(0, 15, 0));
        room.put(1, 5, 3999);
        checks.due("12: proven again when it is back", true, () -> room.proves(1, 4, 3399));
        checks.due("12: nothing is put by proving", 3999, () -> room.thing(1, 5));
    }

    private static void provesInEveryCorner() {
        SealedCupboards room = Rooms.full();
        for (int drawer : new int[] {0, 15}) {
            checks.due("12: first seal, nothing in " + drawer, true, () -> room.proves(0, drawer, 0));
            checks.due("12: first seal, 9999 in " + drawer, false, () -> room.proves(0, drawer, 9999));
            checks.due("12: last seal, nothing in " + drawer, false, () -> room.proves(19, drawer, 0));
            checks.due("12: last seal, 9999 in " + drawer, true, () -> room.proves(19, drawer, 9999));
        }
    }
}
