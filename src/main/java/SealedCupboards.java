/** Cupboards of drawers that are sealed by sums of sums. */
public final class SealedCupboards {
    private static final int MOST_CUPBOARDS = 6;
    private static final int MOST_SEALS = 20;
    private static final int DRAWERS = 16;
    private static final int LAST_PLACE = 31;
    private static final int ROOT = 1;
    private static final int LAST_THING = 9999;
    private static final int MODULUS = 997;
    private static final int PROOF_STEPS = 4;
    private static final int TOLD_NUMBERS = 6;
    private static final int ABOUT_NUMBERS = 4;
    private static final int COUNT_NUMBERS = 4;
    private static final int NO_PAIR = -1;
    private static final long DIGEST_START = 1277;

    private final Cupboard[] cupboards = new Cupboard[MOST_CUPBOARDS];
    private final Seal[] seals = new Seal[MOST_SEALS];
    /** A row of sums that swap and swapped write over, so that no call makes one of its own. */
    private final int[] spareSums = new int[LAST_PLACE + 1];
    private int cupboardCount;
    private int sealCount;

    /** The things of one cupboard and the sums over them, which always fit each other. */
    private static final class Cupboard {
        private final int[] things = new int[DRAWERS];
        /** By place; the place 0 is not used. */
        private final int[] sums = new int[LAST_PLACE + 1];
        private int changes;

        private Cupboard() {
            for (int drawer = 0; drawer < DRAWERS; drawer++) {
                sums[DRAWERS + drawer] = sumOfThing(drawer, 0);
            }
            for (int place = DRAWERS - 1; place >= ROOT; place--) {
                sums[place] = sumOfSums(sums[2 * place], sums[2 * place + 1], place);
            }
        }

        private int root() {
            return sums[ROOT];
        }

        /** Every thing that comes into a drawer comes by this way, so that each change is counted. */
        private void lay(int drawer, int thing) {
            if (things[drawer] != thing) {
                things[drawer] = thing;
                changes++;
                sumUp(sums, drawer, thing);
            }
        }

        private int proofSum(int drawer, int step) {
            return sums[((DRAWERS + drawer) >> step) ^ 1];
        }

        private int filledDrawers() {
            int filled = 0;
            for (int thing : things) {
                if (thing != 0) {
                    filled++;
                }
            }
            return filled;
        }

        private int thingsAdded() {
            int added = 0;
            for (int thing : things) {
                added += thing;
            }
            return added;
        }
    }

    /** What a cupboard was like on the day of its sealing. */
    private static final class Seal {
        private final int cupboard;
        private final int root;
        private final int changes;

        private Seal(int cupboard, int root, int changes) {
            this.cupboard = cupboard;
            this.root = root;
            this.changes = changes;
        }
    }

    /** Creates an empty room. */
    public SealedCupboards() {
    }

    // ---- cupboards

    /** Returns the number of a new cupboard. */
    public int come() throws IllegalStateException {
        if (cupboardCount >= MOST_CUPBOARDS) {
            throw new IllegalStateException("there are 6 cupboards");
        }
        cupboards[cupboardCount] = new Cupboard();
        cupboardCount++;
        return cupboardCount - 1;
    }

    /** Puts a thing into a drawer; returns what lay there before. */
    public int put(int cupboard, int drawer, int thing) throws IndexOutOfBoundsException, IllegalArgumentException {
        Cupboard found = findCupboard(cupboard);
        checkDrawer(drawer);
        checkThing(thing);
        int before = found.things[drawer];
        found.lay(drawer, thing);
        return before;
    }

    /** Swaps the things of two drawers; returns how many sums of the cupboard became other ones. */
    public int swap(int cupboard, int a, int b) throws IndexOutOfBoundsException {
        Cupboard found = findCupboard(cupboard);
        checkDrawer(a);
        checkDrawer(b);
        System.arraycopy(found.sums, 0, spareSums, 0, LAST_PLACE + 1);
        int thingOfA = found.things[a];
        found.lay(a, found.things[b]);
        found.lay(b, thingOfA);
        return placesApart(spareSums, found.sums);
    }

    /** Returns the sum at a place. */
    public int sum(int cupboard, int place) throws IndexOutOfBoundsException {
        Cupboard found = findCupboard(cupboard);
        if (place < ROOT || place > LAST_PLACE) {
            throw new IndexOutOfBoundsException("place is not 1 to 31");
        }
        return found.sums[place];
    }

    /**
     * Returns of a cupboard, by what: 0 its root, 1 its changes, 2 things that are not 0, 3 all things, added,
     * 4 seals of it, 5 those of these that it keeps.
     */
    public int told(int cupboard, int what) throws IndexOutOfBoundsException {
        Cupboard found = findCupboard(cupboard);
        checkWhat(what, TOLD_NUMBERS);
        switch (what) {
            case 0:
                return found.root();
            case 1:
                return found.changes;
            case 2:
                return found.filledDrawers();
            case 3:
                return found.thingsAdded();
            case 4:
                return sealsOf(cupboard);
            default:
                return sealsKept(cupboard, found.root());
        }
    }

    /** Returns the thing in a drawer. */
    public int thing(int cupboard, int drawer) throws IndexOutOfBoundsException {
        Cupboard found = findCupboard(cupboard);
        checkDrawer(drawer);
        return found.things[drawer];
    }

    // ---- seals and proofs

    /** Seals a cupboard; returns the number of the seal. */
    public int seal(int cupboard) throws IndexOutOfBoundsException, IllegalStateException {
        Cupboard found = findCupboard(cupboard);
        if (sealCount >= MOST_SEALS) {
            throw new IllegalStateException("there are 20 seals");
        }
        seals[sealCount] = new Seal(cupboard, found.root(), found.changes);
        sealCount++;
        return sealCount - 1;
    }

    /**
     * Returns of a seal, by what: 0 its cupboard, 1 its root, 2 changes of the cupboard by then,
     * 3 changes of it since then.
     */
    public int about(int seal, int what) throws IndexOutOfBoundsException {
        Seal found = findSeal(seal);
        checkWhat(what, ABOUT_NUMBERS);
        switch (what) {
            case 0:
                return found.cupboard;
            case 1:
                return found.root;
            case 2:
                return found.changes;
            default:
                return findCupboard(found.cupboard).changes - found.changes;
        }
    }

    /** Returns a sum of the proof of a drawer, as it is now: step 0 is beside the drawer, 3 below the root. */
    public int proof(int cupboard, int drawer, int step) throws IndexOutOfBoundsException {
        Cupboard found = findCupboard(cupboard);
        checkDrawer(drawer);
        if (step < 0 || step >= PROOF_STEPS) {
            throw new IndexOutOfBoundsException("step is not 0 to 3");
        }
        return found.proofSum(drawer, step);
    }

    /** Returns the root to which a thing in a drawer comes with the proof a, b, c, d. */
    public int comes(int drawer, int thing, int a, int b, int c, int d)
            throws IndexOutOfBoundsException, IllegalArgumentException {
        checkDrawer(drawer);
        checkThing(thing);
        checkSum(a);
        checkSum(b);
        checkSum(c);
        checkSum(d);
        int place = DRAWERS + drawer;
        int reached = sumOfThing(drawer, thing);
        reached = sumAbove(place, reached, a);
        reached = sumAbove(place >> 1, reached, b);
        reached = sumAbove(place >> 2, reached, c);
        return sumAbove(place >> 3, reached, d);
    }

    /** Returns whether a thing in a drawer comes, with the drawer's proof of now, to the root of a seal. */
    public boolean proves(int seal, int drawer, int thing) throws IndexOutOfBoundsException, IllegalArgumentException {
        Seal found = findSeal(seal);
        checkDrawer(drawer);
        checkThing(thing);
        Cupboard sealed = findCupboard(found.cupboard);
        int reached = sumOfThing(drawer, thing);
        for (int step = 0; step < PROOF_STEPS; step++) {
            reached = sumAbove((DRAWERS + drawer) >> step, reached, sealed.proofSum(drawer, step));
        }
        return reached == found.root;
    }

    // ---- comparing

    /** Returns the drawers whose sums are found to differ, a bit each. */
    public int differ(int a, int b) throws IndexOutOfBoundsException {
        return drawersApart(findCupboard(a).sums, findCupboard(b).sums);
    }

    /** Returns at how many places sums are looked at as two cupboards are compared. */
    public int looks(int a, int b) throws IndexOutOfBoundsException {
        return Integer.bitCount(placesLookedAt(findCupboard(a).sums, findCupboard(b).sums));
    }

    /** Makes the second cupboard like the first one; returns how many of its things become other ones. */
    public int mend(int a, int b) throws IndexOutOfBoundsException {
        Cupboard model = findCupboard(a);
        Cupboard mended = findCupboard(b);
        int apart = drawersApart(model.sums, mended.sums);
        for (int drawer = 0; drawer < DRAWERS; drawer++) {
            if (hasBit(apart, drawer)) {
                mended.lay(drawer, model.things[drawer]);
            }
        }
        // Where the sums of a drawer differ the things do too, so each of these things became another one.
        return Integer.bitCount(apart);
    }

    /** Returns 16 * the first and the second of two drawers whose swapping back brings a seal's root; -1 if none. */
    public int swapped(int seal) throws IndexOutOfBoundsException {
        Seal found = findSeal(seal);
        Cupboard sealed = findCupboard(found.cupboard);
        if (sealed.root() == found.root) {
            return NO_PAIR;
        }
        System.arraycopy(sealed.sums, 0, spareSums, 0, LAST_PLACE + 1);
        for (int first = 0; first < DRAWERS; first++) {
            for (int second = first + 1; second < DRAWERS; second++) {
                if (rootWithSwap(sealed.things, first, second) == found.root) {
                    return DRAWERS * first + second;
                }
            }
        }
        return NO_PAIR;
    }

    /** Returns, by what: 0 cupboards, 1 seals, 2 different roots of cupboards, 3 changes of all cupboards, added. */
    public int count(int what) throws IndexOutOfBoundsException {
        checkWhat(what, COUNT_NUMBERS);
        switch (what) {
            case 0:
                return cupboardCount;
            case 1:
                return sealCount;
            case 2:
                return differentRoots();
            default:
                return changesAdded();
        }
    }

    /** Returns the mean sum of all places of all cupboards; 0 without any. */
    public double mean() {
        if (cupboardCount == 0) {
            return 0.0;
        }
        int total = 0;
        for (int cupboard = 0; cupboard < cupboardCount; cupboard++) {
            for (int place = ROOT; place <= LAST_PLACE; place++) {
                total += cupboards[cupboard].sums[place];
            }
        }
        return (double) total / (double) (LAST_PLACE * cupboardCount);
    }

    /** Returns a checksum of all that count, told, thing and about answer. */
    public long digest() {
        long d = DIGEST_START;
        for (int what = 0; what < COUNT_NUMBERS; what++) {
            d = d * 31 + count(what);
        }
        for (int cupboard = 0; cupboard < cupboardCount; cupboard++) {
            for (int what = 0; what < TOLD_NUMBERS; what++) {
                d = d * 31 + told(cupboard, what);
            }
            for (int drawer = 0; drawer < DRAWERS; drawer++) {
                d = d * 31 + thing(cupboard, drawer);
            }
        }
        for (int seal = 0; seal < sealCount; seal++) {
            for (int what = 0; what < ABOUT_NUMBERS; what++) {
                d = d * 31 + about(seal, what);
            }
        }
        return d;
    }

    // ---- what the calls ask of the room

    private Cupboard findCupboard(int number) {
        if (number < 0 || number >= cupboardCount) {
            throw new IndexOutOfBoundsException("there is no such cupboard");
        }
        return cupboards[number];
    }

    private Seal findSeal(int number) {
        if (number < 0 || number >= sealCount) {
            throw new IndexOutOfBoundsException("there is no such seal");
        }
        return seals[number];
    }

    private int sealsOf(int cupboard) {
        int its = 0;
        for (int seal = 0; seal < sealCount; seal++) {
            if (seals[seal].cupboard == cupboard) {
                its++;
            }
        }
        return its;
    }

    private int sealsKept(int cupboard, int root) {
        int kept = 0;
        for (int seal = 0; seal < sealCount; seal++) {
            if (seals[seal].cupboard == cupboard && seals[seal].root == root) {
                kept++;
            }
        }
        return kept;
    }

    private int differentRoots() {
        int different = 0;
        for (int cupboard = 0; cupboard < cupboardCount; cupboard++) {
            if (!isRootBefore(cupboard)) {
                different++;
            }
        }
        return different;
    }

    private boolean isRootBefore(int cupboard) {
        for (int earlier = 0; earlier < cupboard; earlier++) {
            if (cupboards[earlier].root() == cupboards[cupboard].root()) {
                return true;
            }
        }
        return false;
    }

    private int changesAdded() {
        int added = 0;
        for (int cupboard = 0; cupboard < cupboardCount; cupboard++) {
            added += cupboards[cupboard].changes;
        }
        return added;
    }

    /** The spare row holds the sums over these things when this begins, and again when it ends. */
    private int rootWithSwap(int[] things, int first, int second) {
        sumUp(spareSums, first, things[second]);
        sumUp(spareSums, second, things[first]);
        int root = spareSums[ROOT];
        sumUp(spareSums, first, things[first]);
        sumUp(spareSums, second, things[second]);
        return root;
    }

    // ---- sums

    private static int sumOfThing(int drawer, int thing) {
        return (37 * thing + 101 * (drawer + 1)) % MODULUS;
    }

    private static int sumOfSums(int left, int right, int place) {
        return (61 * left + 89 * right + place) % MODULUS;
    }

    /** The sum above a place, of the sum at this place and the one beside it. */
    private static int sumAbove(int place, int own, int beside) {
        boolean isLeft = place % 2 == 0;
        return isLeft ? sumOfSums(own, beside, place / 2) : sumOfSums(beside, own, place / 2);
    }

    /** Writes the sum of a thing in a drawer into a row of sums, and all sums above it. */
    private static void sumUp(int[] sums, int drawer, int thing) {
        sums[DRAWERS + drawer] = sumOfThing(drawer, thing);
        for (int place = (DRAWERS + drawer) / 2; place >= ROOT; place /= 2) {
            sums[place] = sumOfSums(sums[2 * place], sums[2 * place + 1], place);
        }
    }

    private static int placesApart(int[] before, int[] after) {
        int apart = 0;
        for (int place = ROOT; place <= LAST_PLACE; place++) {
            if (before[place] != after[place]) {
                apart++;
            }
        }
        return apart;
    }

    /**
     * The places, a bit each, at which two rows of sums are looked at from the root down. A place stands behind
     * the place above it, so one pass in the order of the places looks at the same ones as a walk down would.
     */
    private static int placesLookedAt(int[] first, int[] second) {
        int looked = 1 << ROOT;
        for (int place = ROOT; place < DRAWERS; place++) {
            if (hasBit(looked, place) && first[place] != second[place]) {
                looked |= 3 << (2 * place);
            }
        }
        return looked;
    }

    private static int drawersApart(int[] first, int[] second) {
        int looked = placesLookedAt(first, second);
        int apart = 0;
        for (int drawer = 0; drawer < DRAWERS; drawer++) {
            int place = DRAWERS + drawer;
            if (hasBit(looked, place) && first[place] != second[place]) {
                apart |= 1 << drawer;
            }
        }
        return apart;
    }

    private static boolean hasBit(int set, int bit) {
        return ((set >>> bit) & 1) == 1;
    }

    // ---- wrong inputs

    private static void checkDrawer(int drawer) {
        if (drawer < 0 || drawer >= DRAWERS) {
            throw new IndexOutOfBoundsException("a drawer is not 0 to 15");
        }
    }

    private static void checkWhat(int what, int numbers) {
        if (what < 0 || what >= numbers) {
            throw new IndexOutOfBoundsException("there is no such number to tell");
        }
    }

    private static void checkThing(int thing) {
        if (thing < 0 || thing > LAST_THING) {
            throw new IllegalArgumentException("thing is not 0 to 9999");
        }
    }

    private static void checkSum(int sum) {
        if (sum < 0 || sum >= MODULUS) {
            throw new IllegalArgumentException("a sum of a proof is not 0 to 996");
        }
    }
}
