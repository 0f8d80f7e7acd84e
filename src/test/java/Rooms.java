/** Rooms that tests begin with. Each call makes a new one, always with the same calls. */
final class Rooms {
    private Rooms() {
    }

    static SealedCupboards of(int cupboards) {
        SealedCupboards room = new SealedCupboards();
        for (int i = 0; i < cupboards; i++) {
            room.come();
        }
        return room;
    }

    /** The seals are of the cupboards in turn. */
    static SealedCupboards of(int cupboards, int seals) {
        SealedCupboards room = of(cupboards);
        for (int seal = 0; seal < seals; seal++) {
            room.seal(seal % cupboards);
        }
        return room;
    }

    /**
     * As many cupboards and seals as there can be. The first seal is of the first cupboard, where nothing ever lies;
     * the last seal is of the last cupboard, which is full of the greatest thing; the one before it was changed since.
     */
    static SealedCupboards full() {
        SealedCupboards room = of(6);
        for (int drawer = 0; drawer < 16; drawer++) {
            room.put(4, drawer, 613 * drawer);
            room.put(5, drawer, 9999);
        }
        for (int seal = 0; seal < 19; seal++) {
            room.seal(seal % 6);
        }
        room.seal(5);
        room.swap(4, 0, 15);
        room.put(2, 15, 1);
        return room;
    }

    /** One cupboard with a thing of its own in each drawer, and a seal of it. */
    static SealedCupboards sealedOnce() {
        SealedCupboards room = of(1);
        for (int drawer = 0; drawer < 16; drawer++) {
            room.put(0, drawer, 613 * drawer);
        }
        room.seal(0);
        return room;
    }

    /**
     * All that a room tells: what its counts say, of each cupboard and of each seal, in at most some 430 calls. What
     * differ, looks and proof answer hangs on the sums alone.
     */
    static String story(SealedCupboards room) {
        StringBuilder story = new StringBuilder();
        for (int what = 0; what < 4; what++) {
            int asked = what;
            tell(story, "count " + what, () -> room.count(asked));
        }
        int cupboards = room.count(0);
        for (int cupboard = 0; cupboard < cupboards; cupboard++) {
            tellOfCupboard(story, room, cupboard);
        }
        int seals = room.count(1);
        for (int seal = 0; seal < seals; seal++) {
            tellOfSeal(story, room, seal);
        }
        tell(story, "mean", room::mean);
        tell(story, "digest", room::digest);
        return story.toString();
    }

    /** The first line in which a story is another one than it should be; nothing if it is just that one. */
    static String firstChange(String want, String got) {
        if (want.equals(got)) {
            return "";
        }
        String[] wanted = want.split("\n");
        String[] told = got.split("\n");
        for (int line = 0; line < Math.min(wanted.length, told.length); line++) {
            if (!wanted[line].equals(told[line])) {
                return told[line] + " instead of " + wanted[line];
            }
        }
        return told.length + " lines instead of " + wanted.length;
    }

    private static void tellOfCupboard(StringBuilder story, SealedCupboards room, int cupboard) {
        for (int place = 1; place <= 31; place++) {
            int asked = place;
            tell(story, "sum " + cupboard + " " + place, () -> room.sum(cupboard, asked));
        }
        for (int what = 0; what <= 5; what++) {
            int asked = what;
            tell(story, "told " + cupboard + " " + what, () -> room.told(cupboard, asked));
        }
        for (int drawer = 0; drawer <= 15; drawer++) {
            int asked = drawer;
            tell(story, "thing " + cupboard + " " + drawer, () -> room.thing(cupboard, asked));
        }
    }

    private static void tellOfSeal(StringBuilder story, SealedCupboards room, int seal) {
        for (int what = 0; what <= 3; what++) {
            int asked = what;
            tell(story, "about " + seal + " " + what, () -> room.about(seal, asked));
        }
        tell(story, "swapped " + seal, () -> room.swapped(seal));
    }

    private static void tell(StringBuilder story, String what, Checks.Call call) {
        story.append(what).append(": ").append(Checks.outcome(call)).append('\n');
    }
}
