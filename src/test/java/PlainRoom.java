import java.util.ArrayList;
import java.util.HashSet;
import java.util.List;
import java.util.Set;

/** The document once more, written the slow way: each sum is made anew from the things whenever it is asked. */
final class PlainRoom {
    /** A seal, as it was made. */
    private record Kept(int cupboard, int root, int changes) {
    }

    private final List<int[]> cupboards = new ArrayList<>();
    private final List<Integer> changes = new ArrayList<>();
    private final List<Kept> seals = new ArrayList<>();

    int come() {
        if (cupboards.size() == 6) {
            throw new IllegalStateException();
        }
        cupboards.add(new int[16]);
        changes.add(0);
        return cupboards.size() - 1;
    }

    int put(int cupboard, int drawer, int thing) {
        index(cupboard, 0, cupboards.size() - 1);
        index(drawer, 0, 15);
        argument(thing, 9999);
        int before = cupboards.get(cupboard)[drawer];
        if (before != thing) {
            changes.set(cupboard, changes.get(cupboard) + 1);
        }
        cupboards.get(cupboard)[drawer] = thing;
        return before;
    }

    int swap(int cupboard, int a, int b) {
        index(cupboard, 0, cupboards.size() - 1);
        index(a, 0, 15);
        index(b, 0, 15);
        int[] before = cupboards.get(cupboard).clone();
        put(cupboard, a, before[b]);
        put(cupboard, b, before[a]);
        int others = 0;
        for (int place = 1; place <= 31; place++) {
            others += sumOf(before, place) == sumOf(cupboards.get(cupboard), place) ? 0 : 1;
        }
        return others;
    }

    int sum(int cupboard, int place) {
        index(cupboard, 0, cupboards.size() - 1);
        index(place, 1, 31);
        return sumOf(cupboards.get(cupboard), place);
    }

    int told(int cupboard, int what) {
        index(cupboard, 0, cupboards.size() - 1);
        index(what, 0, 5);
        int root = sumOf(cupboards.get(cupboard), 1);
        int[] all = {root, changes.get(cupboard), 0, 0, 0, 0};
        for (int thing : cupboards.get(cupboard)) {
            all[2] += thing == 0 ? 0 : 1;
            all[3] += thing;
        }
        for (Kept seal : seals) {
            all[4] += seal.cupboard() == cupboard ? 1 : 0;
            all[5] += seal.cupboard() == cupboard && seal.root() == root ? 1 : 0;
        }
        return all[what];
    }

    int thing(int cupboard, int drawer) {
        index(cupboard, 0, cupboards.size() - 1);
        index(drawer, 0, 15);
        return cupboards.get(cupboard)[drawer];
    }

    int seal(int cupboard) {
        index(cupboard, 0, cupboards.size() - 1);
        if (seals.size() == 20) {
            throw new IllegalStateException();
        }
        seals.add(new Kept(cupboard, sumOf(cupboards.get(cupboard), 1), changes.get(cupboard)));
        return seals.size() - 1;
    }

    int about(int seal, int what) {
        index(seal, 0, seals.size() - 1);
        index(what, 0, 3);
        Kept kept = seals.get(seal);
        int since = changes.get(kept.cupboard()) - kept.changes();
        return new int[] {kept.cupboard(), kept.root(), kept.changes(), since}[what];
    }

    int proof(int cupboard, int drawer, int step) {
        index(cupboard, 0, cupboards.size() - 1);
        index(drawer, 0, 15);
        index(step, 0, 3);
        int place = 16 + drawer;
        for (int i = 0; i < step; i++) {
            place /= 2;
        }
        return sumOf(cupboards.get(cupboard), place % 2 == 0 ? place + 1 : place - 1);
    }

    int comes(int drawer, int thing, int a, int b, int c, int d) {
        index(drawer, 0, 15);
        argument(thing, 9999);
        int[] proof = {a, b, c, d};
        for (int sum : proof) {
            argument(sum, 996);
        }
        int place = 16 + drawer;
        int reached = (37 * thing + 101 * (drawer + 1)) % 997;
        for (int sum : proof) {
            int left = place % 2 == 0 ? reached : sum;
            int right = place % 2 == 0 ? sum : reached;
            place /= 2;
            reached = (61 * left + 89 * right + place) % 997;
        }
        return reached;
    }

    boolean proves(int seal, int drawer, int thing) {
        index(seal, 0, seals.size() - 1);
        index(drawer, 0, 15);
        argument(thing, 9999);
        int[] trial = cupboards.get(seals.get(seal).cupboard()).clone();
        trial[drawer] = thing;
        return sumOf(trial, 1) == seals.get(seal).root();
    }

    int differ(int a, int b) {
        index(a, 0, cupboards.size() - 1);
        index(b, 0, cupboards.size() - 1);
        return differBelow(cupboards.get(a), cupboards.get(b), 1);
    }

    int looks(int a, int b) {
        index(a, 0, cupboards.size() - 1);
        index(b, 0, cupboards.size() - 1);
        return looksBelow(cupboards.get(a), cupboards.get(b), 1);
    }

    int mend(int a, int b) {
        int found = differ(a, b);
        int others = 0;
        for (int drawer = 0; drawer < 16; drawer++) {
            if ((found & 1 << drawer) != 0) {
                int thing = cupboards.get(a)[drawer];
                others += put(b, drawer, thing) == thing ? 0 : 1;
            }
        }
        return others;
    }

    int swapped(int seal) {
        index(seal, 0, seals.size() - 1);
        Kept kept = seals.get(seal);
        int[] things = cupboards.get(kept.cupboard());
        int least = -1;
        for (int pair = 255; pair >= 0; pair--) {
            int[] trial = things.clone();
            trial[pair / 16] = things[pair % 16];
            trial[pair % 16] = things[pair / 16];
            if (pair / 16 < pair % 16 && sumOf(trial, 1) == kept.root()) {
                least = pair;
            }
        }
        return sumOf(things, 1) == kept.root() ? -1 : least;
    }

    int count(int what) {
        index(what, 0, 3);
        Set<Integer> roots = new HashSet<>();
        int added = 0;
        for (int cupboard = 0; cupboard < cupboards.size(); cupboard++) {
            roots.add(sumOf(cupboards.get(cupboard), 1));
            added += changes.get(cupboard);
        }
        return new int[] {cupboards.size(), seals.size(), roots.size(), added}[what];
    }

    double mean() {
        double total = 0;
        for (int[] things : cupboards) {
            for (int place = 1; place <= 31; place++) {
                total += sumOf(things, place);
            }
        }
        return cupboards.isEmpty() ? 0 : total / (31 * cupboards.size());
    }

    long digest() {
        long d = 1277;
        for (int what = 0; what < 4; what++) {
            d = d * 31 + count(what);
        }
        for (int cupboard = 0; cupboard < cupboards.size(); cupboard++) {
            for (int what = 0; what < 6; what++) {
                d = d * 31 + told(cupboard, what);
            }
            for (int thing : cupboards.get(cupboard)) {
                d = d * 31 + thing;
            }
        }
        for (int seal = 0; seal < seals.size(); seal++) {
            for (int what = 0; what < 4; what++) {
                d = d * 31 + about(seal, what);
            }
        }
        return d;
    }

    private static int sumOf(int[] things, int place) {
        if (place >= 16) {
            return (37 * things[place - 16] + 101 * (place - 15)) % 997;
        }
        return (61 * sumOf(things, 2 * place) + 89 * sumOf(things, 2 * place + 1) + place) % 997;
    }

    private static int differBelow(int[] a, int[] b, int place) {
        if (sumOf(a, place) == sumOf(b, place)) {
            return 0;
        }
        return place >= 16 ? 1 << (place - 16) : differBelow(a, b, 2 * place) | differBelow(a, b, 2 * place + 1);
    }

    private static int looksBelow(int[] a, int[] b, int place) {
        if (place >= 16 || sumOf(a, place) == sumOf(b, place)) {
            return 1;
        }
        return 1 + looksBelow(a, b, 2 * place) + looksBelow(a, b, 2 * place + 1);
    }

    private static void index(int number, int least, int most) {
        if (number < least || number > most) {
            throw new IndexOutOfBoundsException();
        }
    }

    private static void argument(int number, int most) {
        if (number < 0 || number > most) {
            throw new IllegalArgumentException();
        }
    }
}
