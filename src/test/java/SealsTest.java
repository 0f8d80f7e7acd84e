/** Promises 8 to 12: seal, about, proof, comes, proves. */
public final class SealsTest {
    private static final Checks checks = new Checks();

    public static void main(String[] args) {
        seal();
        sealRefusesTheFirstNamed();
        about();
        proof();
        comes();
        comesRefuses();
        proofsCome();
        proves();
        provesRefuses();
        checks.end("SealsTest");
    }

    private static void seal() {
        SealedCupboards room = Checks.roomOf(6);
        for (int number = 0; number < 20; number++) {
            int cupboard = number % 6;
            checks.due("8: seal", number, () -> room.seal(cupboard));
            checks.due("8: seal counts", number + 1, () -> room.count(1));
        }
        checks.refused(room, "8: the 21st", Checks.STATE, () -> room.seal(0));
        checks.due("8: the last one is of its cupboard", 1, () -> room.about(19, 0));
    }

    private static void sealRefusesTheFirstNamed() {
        SealedCupboards room = Checks.roomOf(1);
        checks.refused(room, "8: cupboard -1", Checks.INDEX, () -> room.seal(-1));
        checks.refused(room, "8: cupboard 1 of 1", Checks.INDEX, () -> room.seal(1));
        for (int i = 0; i < 20; i++) {
            room.seal(0);
        }
        checks.refused(room, "8: no such cupboard before too many seals", Checks.INDEX, () -> room.seal(1));
        checks.refused(room, "8: too many seals", Checks.STATE, () -> room.seal(0));
    }

    private static void about() {
        SealedCupboards room = Checks.roomOf(3);
        room.put(2, 0, 9999);
        room.put(2, 15, 1);
        room.seal(2);
        room.put(2, 15, 1);
        room.put(2, 3, 4);
        room.swap(2, 3, 4);
        room.seal(2);
        room.seal(0);
        int[] first = {2, 909, 2, 3};
        int[] third = {0, 382, 0, 0};
        for (int what = 0; what < 4; what++) {
            int asked = what;
            checks.due("9: about the first " + what, first[what], () -> room.about(0, asked));
            checks.due("9: about the third " + what, third[what], () -> room.about(2, asked));
        }
        checks.due("9: changes by the second", 5, () -> room.about(1, 2));
        checks.due("9: changes since the second", 0, () -> room.about(1, 3));
        checks.refused(room, "9: what -1", Checks.INDEX, () -> room.about(0, -1));
        checks.refused(room, "9: what 4", Checks.INDEX, () -> room.about(0, 4));
        checks.refused(room, "9: seal -1", Checks.INDEX, () -> room.about(-1, 0));
        checks.refused(room, "9: seal 3 of 3", Checks.INDEX, () -> room.about(3, 0));
    }

    private static void proof() {
        SealedCupboards room = Checks.roomOf(2);
        int[] first = {202, 610, 509, 877};
        int[] sixth = {505, 395, 854, 877};
        int[] last = {518, 571, 164, 688};
        for (int step = 0; step < 4; step++) {
            int asked = step;
            checks.due("10: proof of 0, " + step, first[step], () -> room.proof(1, 0, asked));
            checks.due("10: proof of 5, " + step, sixth[step], () -> room.proof(1, 5, asked));
            checks.due("10: proof of 15, " + step, last[step], () -> room.proof(1, 15, asked));
        }
        room.put(1, 0, 9999);
        room.put(1, 15, 1);
        checks.due("10: the proof is that of now", 219, () -> room.proof(1, 0, 3));
        checks.due("10: the drawer's own thing is not in it", 202, () -> room.proof(1, 0, 0));
        checks.due("10: the other cupboard's is as it was", 877, () -> room.proof(0, 0, 3));
        checks.refused(room, "10: step -1", Checks.INDEX, () -> room.proof(0, 0, -1));
        checks.refused(room, "10: step 4", Checks.INDEX, () -> room.proof(0, 0, 4));
        checks.refused(room, "10: drawer -1", Checks.INDEX, () -> room.proof(0, -1, 0));
        checks.refused(room, "10: drawer 16", Checks.INDEX, () -> room.proof(0, 16, 0));
        checks.refused(room, "10: cupboard -1", Checks.INDEX, () -> room.proof(-1, 0, 0));
        checks.refused(room, "10: cupboard 2 of 2", Checks.INDEX, () -> room.proof(2, 0, 0));
    }

    private static void comes() {
        SealedCupboards room = new SealedCupboards();
        checks.due("11: least of all", 218, () -> room.comes(0, 0, 0, 0, 0, 0));
        checks.due("11: most of all", 289, () -> room.comes(15, 9999, 996, 996, 996, 996));
        checks.due("11: a alone", 389, () -> room.comes(0, 9999, 996, 0, 0, 0));
        checks.due("11: b alone", 53, () -> room.comes(0, 0, 0, 996, 0, 0));
        checks.due("11: c alone", 771, () -> room.comes(0, 0, 0, 0, 996, 0));
        checks.due("11: d alone", 129, () -> room.comes(0, 0, 0, 0, 0, 996));
        checks.due("11: left and right in turn", 669, () -> room.comes(5, 7, 1, 2, 3, 4));
        checks.due("11: right and left in turn", 98, () -> room.comes(10, 7, 1, 2, 3, 4));
    }

    private static void comesRefuses() {
        SealedCupboards room = Checks.roomOf(1);
        checks.refused(room, "11: drawer -1", Checks.INDEX, () -> room.comes(-1, 0, 0, 0, 0, 0));
        checks.refused(room, "11: drawer 16", Checks.INDEX, () -> room.comes(16, 0, 0, 0, 0, 0));
        checks.refused(room, "11: drawer before thing", Checks.INDEX, () -> room.comes(16, -1, 0, 0, 0, 0));
        checks.refused(room, "11: drawer before d", Checks.INDEX, () -> room.comes(-1, 0, 0, 0, 0, 997));
        checks.refused(room, "11: thing -1", Checks.ARGUMENT, () -> room.comes(0, -1, 0, 0, 0, 0));
        checks.refused(room, "11: thing 10000", Checks.ARGUMENT, () -> room.comes(0, 10000, 0, 0, 0, 0));
        for (int wrong : new int[] {-1, 997, Integer.MIN_VALUE, Integer.MAX_VALUE}) {
            checks.refused(room, "11: a " + wrong, Checks.ARGUMENT, () -> room.comes(0, 0, wrong, 0, 0, 0));
            checks.refused(room, "11: b " + wrong, Checks.ARGUMENT, () -> room.comes(0, 0, 0, wrong, 0, 0));
            checks.refused(room, "11: c " + wrong, Checks.ARGUMENT, () -> room.comes(0, 0, 0, 0, wrong, 0));
            checks.refused(room, "11: d " + wrong, Checks.ARGUMENT, () -> room.comes(0, 0, 0, 0, 0, wrong));
        }
    }

    private static void proofsCome() {
        SealedCupboards room = Checks.roomOf(1);
        for (int drawer = 0; drawer < 16; drawer++) {
            room.put(0, drawer, 613 * drawer);
        }
        int root = room.sum(0, 1);
        for (int drawer = 0; drawer < 16; drawer++) {
            int d = drawer;
            checks.due("11: the proof of " + drawer + " comes to the root", root, () -> room.comes(d, 613 * d,
                room.proof(0, d, 0), room.proof(0, d, 1), room.proof(0, d, 2), room.proof(0, d, 3)));
        }
    }

    private static void proves() {
        SealedCupboards room = Checks.roomOf(2);
        for (int drawer = 0; drawer < 16; drawer++) {
            room.put(1, drawer, 600 * drawer + 999);
        }
        room.seal(0);
        room.seal(1);
        for (int drawer = 0; drawer < 16; drawer++) {
            int d = drawer;
            checks.due("12: its thing in " + d, true, () -> room.proves(1, d, 600 * d + 999));
            checks.due("12: another thing in " + d, false, () -> room.proves(1, d, 600 * d + 998));
            checks.due("12: a thing of the same sum in " + d, true, () -> room.proves(1, d, 600 * d + 2));
            checks.due("12: an empty cupboard's " + d, true, () -> room.proves(0, d, 0));
        }
        room.put(1, 5, 1);
        checks.due("12: the thing of that day, proven still", true, () -> room.proves(1, 5, 3999));
        checks.due("12: the thing of now was not there", false, () -> room.proves(1, 5, 1));
        checks.due("12: other drawers' proofs are those of now", false, () -> room.proves(1, 4, 3399));
        checks.due("12: the other seal is as it was", true, () -> room.proves(0, 15, 0));
        checks.due("12: the greatest thing", false, () -> room.proves(0, 15, 9999));
    }

    private static void provesRefuses() {
        SealedCupboards room = Checks.roomOf(1);
        room.seal(0);
        checks.refused(room, "12: seal -1", Checks.INDEX, () -> room.proves(-1, 0, 0));
        checks.refused(room, "12: seal 1 of 1", Checks.INDEX, () -> room.proves(1, 0, 0));
        checks.refused(room, "12: drawer -1", Checks.INDEX, () -> room.proves(0, -1, 0));
        checks.refused(room, "12: drawer 16", Checks.INDEX, () -> room.proves(0, 16, 0));
        checks.refused(room, "12: thing -1", Checks.ARGUMENT, () -> room.proves(0, 0, -1));
        checks.refused(room, "12: thing 10000", Checks.ARGUMENT, () -> room.proves(0, 0, 10000));
        checks.refused(room, "12: seal before thing", Checks.INDEX, () -> room.proves(1, 0, 10000));
        checks.refused(room, "12: drawer before thing", Checks.INDEX, () -> room.proves(0, 16, -1));
    }
}
