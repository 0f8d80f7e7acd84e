import java.util.Arrays;
import java.util.List;

/**
 * Each sentence that says what a call throws: that it throws just this, the first named of several, and that nothing
 * has changed after it; and that the inputs at the edges, just beside the wrong ones, are taken.
 */
public final class RefusalsTest {
    /** A call of the face with its arguments in a row. */
    private interface Asked {
        Object of(SealedCupboards room, int[] in);
    }

    private interface Recipe {
        SealedCupboards make();
    }

    /** What an argument stands for: the least and the greatest number that is taken, and what others throw. */
    private enum Input {
        CUPBOARD(0, -1, Checks.INDEX),
        SEAL(0, -1, Checks.INDEX),
        DRAWER(0, 15, Checks.INDEX),
        PLACE(1, 31, Checks.INDEX),
        STEP(0, 3, Checks.INDEX),
        WHAT_TOLD(0, 5, Checks.INDEX),
        WHAT_ABOUT(0, 3, Checks.INDEX),
        WHAT_COUNTED(0, 3, Checks.INDEX),
        THING(0, 9999, Checks.ARGUMENT),
        SUM(0, 996, Checks.ARGUMENT);

        private final int least;
        private final int most;
        private final String refusal;

        Input(int least, int most, String refusal) {
            this.least = least;
            this.most = most;
            this.refusal = refusal;
        }

        /** Less than the least if the room has none. */
        private int mostIn(SealedCupboards room) {
            return this == CUPBOARD ? room.count(0) - 1 : this == SEAL ? room.count(1) - 1 : most;
        }

        private int[] wrongIn(SealedCupboards room) {
            return new int[] {least - 1, mostIn(room) + 1, Integer.MIN_VALUE, Integer.MAX_VALUE};
        }
    }

    private record FaceCall(String name, Asked asked, Input... inputs) {
        private String with(int[] in) {
            return name + Arrays.toString(in);
        }

        /** Each argument the least that is taken, or each the greatest; null if the room has nothing to name. */
        private int[] rightIn(SealedCupboards room, boolean greatest, int besides) {
            int[] in = new int[inputs.length];
            for (int i = 0; i < inputs.length; i++) {
                if (i != besides && inputs[i].mostIn(room) < inputs[i].least) {
                    return null;
                }
                in[i] = greatest ? inputs[i].mostIn(room) : inputs[i].least;
            }
            return in;
        }
    }

    private static final List<Recipe> RECIPES = List.of(SealedCupboards::new, () -> Rooms.of(1), () -> Rooms.of(1, 1),
        () -> Rooms.of(5, 19), () -> Rooms.of(6), Rooms::full);

    private static final Checks checks = new Checks();

    public static void main(String[] args) {
        come();
        put();
        swap();
        sum();
        told();
        thing();
        seal();
        about();
        proof();
        comes();
        proves();
        differ();
        looks();
        mend();
        swapped();
        count();
        checks.end("RefusalsTest");
    }

    // ---- a method for each promise, a line for each thing that can be wrong

    private static void come() {
        FaceCall come = new FaceCall("2: come", (room, in) -> room.come());
        isTakenAtEdges(come, () -> Rooms.of(5, 20));
        isRefused(come, new int[0], Checks.STATE, () -> Rooms.of(6));
        isRefused(come, new int[0], Checks.STATE, Rooms::full);
        SealedCupboards room = Rooms.of(6);
        for (int more = 0; more < 3; more++) {
            checks.due("2: come again", Checks.STATE, room::come);
        }
        checks.due("2: there are 6 after all", 6, () -> room.count(0));
    }

    private static void put() {
        FaceCall put = new FaceCall("3: put", (room, in) -> room.put(in[0], in[1], in[2]),
            Input.CUPBOARD, Input.DRAWER, Input.THING);
        refuses(put, Input.CUPBOARD);
        refuses(put, Input.DRAWER);
        refuses(put, Input.THING);
        namesTheFirst(put);
        takesEdges(put);
    }

    private static void swap() {
        FaceCall swap = new FaceCall("4: swap", (room, in) -> room.swap(in[0], in[1], in[2]),
            Input.CUPBOARD, Input.DRAWER, Input.DRAWER);
        refuses(swap, Input.CUPBOARD);
        refuses(swap, Input.DRAWER);
        namesTheFirst(swap);
        takesEdges(swap);
    }

    private static void sum() {
        FaceCall sum = new FaceCall("5: sum", (room, in) -> room.sum(in[0], in[1]), Input.CUPBOARD, Input.PLACE);
        refuses(sum, Input.CUPBOARD);
        refuses(sum, Input.PLACE);
        namesTheFirst(sum);
        takesEdges(sum);
    }

    private static void told() {
        FaceCall told = new FaceCall("6: told", (room, in) -> room.told(in[0], in[1]),
            Input.CUPBOARD, Input.WHAT_TOLD);
        refuses(told, Input.CUPBOARD);
        refuses(told, Input.WHAT_TOLD);
        namesTheFirst(told);
        takesEdges(told);
    }

    private static void thing() {
        FaceCall thing = new FaceCall("7: thing", (room, in) -> room.thing(in[0], in[1]),
            Input.CUPBOARD, Input.DRAWER);
        refuses(thing, Input.CUPBOARD);
        refuses(thing, Input.DRAWER);
        namesTheFirst(thing);
        takesEdges(thing);
    }

    private static void seal() {
        FaceCall seal = new FaceCall("8: seal", (room, in) -> room.seal(in[0]), Input.CUPBOARD);
        refuses(seal, Input.CUPBOARD);
        isTakenAtEdges(seal, () -> Rooms.of(6, 19));
        for (int cupboard = 0; cupboard < 6; cupboard++) {
            isRefused(seal, new int[] {cupboard}, Checks.STATE, Rooms::full);
        }
        isRefused(seal, new int[] {0}, Checks.STATE, () -> Rooms.of(1, 20));
        // With 20 seals and no such cupboard the one that is named first is thrown.
        isRefused(seal, new int[] {1}, Checks.INDEX, () -> Rooms.of(1, 20));
        isRefused(seal, new int[] {-1}, Checks.INDEX, () -> Rooms.of(1, 20));
    }

    private static void about() {
        FaceCall about = new FaceCall("9: about", (room, in) -> room.about(in[0], in[1]),
            Input.SEAL, Input.WHAT_ABOUT);
        refuses(about, Input.SEAL);
        refuses(about, Input.WHAT_ABOUT);
        namesTheFirst(about);
        takesEdges(about);
    }

    private static void proof() {
        FaceCall proof = new FaceCall("10: proof", (room, in) -> room.proof(in[0], in[1], in[2]),
            Input.CUPBOARD, Input.DRAWER, Input.STEP);
        refuses(proof, Input.CUPBOARD);
        refuses(proof, Input.DRAWER);
        refuses(proof, Input.STEP);
        namesTheFirst(proof);
        takesEdges(proof);
    }

    private static void comes() {
        FaceCall comes = new FaceCall("11: comes",
            (room, in) -> room.comes(in[0], in[1], in[2], in[3], in[4], in[5]),
            Input.DRAWER, Input.THING, Input.SUM, Input.SUM, Input.SUM, Input.SUM);
        refuses(comes, Input.DRAWER);
        refuses(comes, Input.THING);
        refuses(comes, Input.SUM);
        namesTheFirst(comes);
        takesEdges(comes);
    }

    private static void proves() {
        FaceCall proves = new FaceCall("12: proves", (room, in) -> room.proves(in[0], in[1], in[2]),
            Input.SEAL, Input.DRAWER, Input.THING);
        refuses(proves, Input.SEAL);
        refuses(proves, Input.DRAWER);
        refuses(proves, Input.THING);
        namesTheFirst(proves);
        takesEdges(proves);
    }

    private static void differ() {
        FaceCall differ = new FaceCall("13: differ", (room, in) -> room.differ(in[0], in[1]),
            Input.CUPBOARD, Input.CUPBOARD);
        refuses(differ, Input.CUPBOARD);
        namesTheFirst(differ);
        takesEdges(differ);
    }

    private static void looks() {
        FaceCall looks = new FaceCall("14: looks", (room, in) -> room.looks(in[0], in[1]),
            Input.CUPBOARD, Input.CUPBOARD);
        refuses(looks, Input.CUPBOARD);
        namesTheFirst(looks);
        takesEdges(looks);
    }

    private static void mend() {
        FaceCall mend = new FaceCall("15: mend", (room, in) -> room.mend(in[0], in[1]),
            Input.CUPBOARD, Input.CUPBOARD);
        refuses(mend, Input.CUPBOARD);
        namesTheFirst(mend);
        takesEdges(mend);
    }

    private static void swapped() {
        FaceCall swapped = new FaceCall("16: swapped", (room, in) -> room.swapped(in[0]), Input.SEAL);
        refuses(swapped, Input.SEAL);
        takesEdges(swapped);
    }

    private static void count() {
        FaceCall count = new FaceCall("17: count", (room, in) -> room.count(in[0]), Input.WHAT_COUNTED);
        refuses(count, Input.WHAT_COUNTED);
        takesEdges(count);
    }

    // ---- how a refusal is tested

    /** One argument is wrong, wherever the call has one of this kind; the others are the least or the greatest. */
    private static void refuses(FaceCall call, Input input) {
        int tried = 0;
        for (Recipe recipe : RECIPES) {
            SealedCupboards room = recipe.make();
            for (int i = 0; i < call.inputs().length; i++) {
                for (int wrong : call.inputs()[i] == input ? input.wrongIn(room) : new int[0]) {
                    for (boolean greatest : new boolean[] {false, true}) {
                        int[] in = call.rightIn(room, greatest, i);
                        if (in != null) {
                            in[i] = wrong;
                            isRefused(call, in, input.refusal, recipe);
                            tried++;
                        }
                    }
                }
            }
        }
        checks.same(call.name() + " was tried with a wrong " + input, "true", String.valueOf(tried > 0));
    }

    /** Two arguments or more are wrong: an IndexOutOfBoundsException is always the one that is named first. */
    private static void namesTheFirst(FaceCall call) {
        for (Recipe recipe : RECIPES) {
            SealedCupboards room = recipe.make();
            for (int way = 0; way < 2; way++) {
                int[] all = new int[call.inputs().length];
                for (int i = 0; i < all.length; i++) {
                    all[i] = call.inputs()[i].wrongIn(room)[way];
                    for (int k = 0; k < i; k++) {
                        int[] two = call.rightIn(room, way == 0, k);
                        if (two != null) {
                            two[k] = all[k];
                            two[i] = all[i];
                            isRefused(call, two, first(call.inputs()[k], call.inputs()[i]), recipe);
                        }
                    }
                }
                isRefused(call, all, Checks.INDEX, recipe);
            }
        }
    }

    private static String first(Input one, Input other) {
        return one.refusal.equals(Checks.INDEX) ? Checks.INDEX : other.refusal;
    }

    /** The room answers as a twin of it does that did not get the call, then and when more calls come. */
    private static void isRefused(FaceCall call, int[] in, String want, Recipe recipe) {
        SealedCupboards room = recipe.make();
        SealedCupboards twin = recipe.make();
        String name = call.with(in) + " with " + twin.count(0) + " cupboards and " + twin.count(1) + " seals";
        checks.due(name, want, () -> call.asked().of(room, in));
        checks.same(name + " changes nothing", "", Rooms.firstChange(Rooms.story(twin), Rooms.story(room)));
        checks.same(name + " leaves the way free", whatFollows(twin), whatFollows(room));
    }

    private static String whatFollows(SealedCupboards room) {
        return Checks.outcome(room::come) + " " + Checks.outcome(() -> room.seal(0)) + " "
            + Checks.outcome(() -> room.put(0, 0, 7)) + " " + Checks.outcome(() -> room.swap(0, 0, 15)) + " "
            + Checks.outcome(room::digest);
    }

    /** Nothing is refused where each argument is the least or the greatest that is taken. */
    private static void takesEdges(FaceCall call) {
        isTakenAtEdges(call, () -> Rooms.of(1, 1));
        isTakenAtEdges(call, Rooms::full);
    }

    private static void isTakenAtEdges(FaceCall call, Recipe recipe) {
        for (int corner = 0; corner < 1 << call.inputs().length; corner++) {
            SealedCupboards room = recipe.make();
            int[] in = call.rightIn(room, false, -1);
            for (int i = 0; i < in.length; i++) {
                in[i] = (corner >> i & 1) == 1 ? call.inputs()[i].mostIn(room) : in[i];
            }
            String got = Checks.outcome(() -> call.asked().of(room, in));
            checks.same(call.with(in) + " is taken: " + got, "false", String.valueOf(got.startsWith("throws.")));
        }
    }
}
