/** All promises: long runs of mixed calls, each answer beside that of the PlainRoom. */
public final class LongRunsTest {
    private static final int RUNS = 1500;
    /** As many as an object is used for. */
    private static final int CALLS = 512;
    private static final int[] EDGES = {-1, Integer.MIN_VALUE, Integer.MAX_VALUE, 4, 6, 16, 20, 32, 997, 10000};

    private final Checks checks = new Checks();
    private long state = 20261119;
    private SealedCupboards room;
    private PlainRoom plain;
    private int cupboards;
    private int things;

    public static void main(String[] args) {
        new LongRunsTest().runAll();
    }

    private void runAll() {
        for (int run = 0; run < RUNS; run++) {
            room = new SealedCupboards();
            plain = new PlainRoom();
            cupboards = 1 + below(6);
            things = new int[] {2, 40, 10000}[run % 3];
            for (int call = 1; call < CALLS; call++) {
                oneCall("run " + run + ", call " + call + ": ");
            }
            both("run " + run + ", at its end: digest()", room::digest, plain::digest);
        }
        checks.end("LongRunsTest");
    }

    /** The same numbers in each run of this program: a test that fails does so again. */
    private int below(int bound) {
        state = state * 6364136223846793005L + 1442695040888963407L;
        return (int) ((state >>> 33) % bound);
    }

    /** Mostly a number that is right, now and then one that is at or past an edge. */
    private int number(int bound) {
        return below(40) == 0 ? EDGES[below(EDGES.length)] : below(bound);
    }

    /** With things that have the same sum as others. */
    private int thing() {
        int thing = number(things);
        return thing >= 0 && thing < 997 && below(8) == 0 ? thing + 997 : thing;
    }

    private void both(String call, Checks.Call got, Checks.Call want) {
        checks.same(call, Checks.outcome(want), Checks.outcome(got));
    }

    private void oneCall(String at) {
        int kind = below(24);
        if (kind < 8) {
            changing(at, kind);
        } else if (kind < 16) {
            telling(at, kind);
        } else {
            comparing(at, kind);
        }
    }

    private void changing(String at, int kind) {
        int c = number(cupboards);
        int d = number(16);
        int e = number(16);
        int t = thing();
        switch (kind) {
            case 0:
                both(at + "come()", room::come, plain::come);
                break;
            case 1: case 2: case 3:
                both(at + "put(" + c + ", " + d + ", " + t + ")", () -> room.put(c, d, t), () -> plain.put(c, d, t));
                break;
            case 4: case 5:
                both(at + "swap(" + c + ", " + d + ", " + e + ")", () -> room.swap(c, d, e), () -> plain.swap(c, d, e));
                break;
            case 6:
                both(at + "seal(" + c + ")", () -> room.seal(c), () -> plain.seal(c));
                break;
            default:
                int b = number(cupboards);
                both(at + "mend(" + c + ", " + b + ")", () -> room.mend(c, b), () -> plain.mend(c, b));
                break;
        }
    }

    private void telling(String at, int kind) {
        int c = number(cupboards);
        int d = number(16);
        int s = number(20);
        int w = number(4);
        int t = thing();
        switch (kind) {
            case 8:
                int p = number(33);
                both(at + "sum(" + c + ", " + p + ")", () -> room.sum(c, p), () -> plain.sum(c, p));
                break;
            case 9:
                int v = number(6);
                both(at + "told(" + c + ", " + v + ")", () -> room.told(c, v), () -> plain.told(c, v));
                break;
            case 10:
                both(at + "thing(" + c + ", " + d + ")", () -> room.thing(c, d), () -> plain.thing(c, d));
                break;
            case 11:
                both(at + "about(" + s + ", " + w + ")", () -> room.about(s, w), () -> plain.about(s, w));
                break;
            case 12:
                both(at + "proof(" + c + ", " + d + ", " + w + ")", () -> room.proof(c, d, w), () -> plain.proof(c, d, w));
                break;
            case 13:
                int[] q = {number(997), number(997), number(997), number(997)};
                both(at + "comes(" + d + ", " + t + ", " + q[0] + ", " + q[1] + ", " + q[2] + ", " + q[3] + ")",
                    () -> room.comes(d, t, q[0], q[1], q[2], q[3]), () -> plain.comes(d, t, q[0], q[1], q[2], q[3]));
                break;
            default:
                both(at + "proves(" + s + ", " + d + ", " + t + ")", () -> room.proves(s, d, t), () -> plain.proves(s, d, t));
                break;
        }
    }

    private void comparing(String at, int kind) {
        int a = number(cupboards);
        int b = number(cupboards);
        int s = number(20);
        int w = number(4);
        switch (kind) {
            case 16: case 17:
                both(at + "differ(" + a + ", " + b + ")", () -> room.differ(a, b), () -> plain.differ(a, b));
                break;
            case 18: case 19:
                both(at + "looks(" + a + ", " + b + ")", () -> room.looks(a, b), () -> plain.looks(a, b));
                break;
            case 20: case 21:
                both(at + "swapped(" + s + ")", () -> room.swapped(s), () -> plain.swapped(s));
                break;
            case 22:
                both(at + "count(" + w + ")", () -> room.count(w), () -> plain.count(w));
                break;
            default:
                if (below(2) == 0) {
                    both(at + "mean()", room::mean, plain::mean);
                } else {
                    both(at + "digest()", room::digest, plain::digest);
                }
                break;
        }
    }
}
