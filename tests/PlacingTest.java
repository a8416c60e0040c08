import java.util.Arrays;

/**
 * Five children and ten homes, always the same made-up ones, full of ties: the homes that placeAll chooses are
 * compared with the first of all ways in the order that the document tells. A child of 12 years or more that wishes
 * not to be in a home may not be placed there, so wishes make any pattern of who may be placed where.
 */
public final class PlacingTest {
    private static final int KIDS = 5;
    private static final int HOMES = 10;
    private static final int NONE = HOMES;
    private static final int CASES = 12000;

    private static long seed = 4711;

    private static int pick(int n) {
        seed = seed * 6364136223846793005L + 1442695040888963407L;
        return (int) ((seed >>> 33) % n);
    }

    /** All that a case tells, and the best way that was found in it so far. */
    private static final class Case {
        final int[] beds = new int[HOMES];
        final int[] places = new int[HOMES];
        final int[] schools = new int[KIDS];
        final boolean[][] may = new boolean[KIDS][HOMES];
        final int[] chosen = new int[KIDS];
        int[] best;

        Case() {
            int mostBeds = 1 + pick(3) * pick(2);
            int apart = pick(3) == 0 ? 50 : 4;
            int open = 1 + pick(2) * pick(4);
            for (int h = 0; h < HOMES; h++) {
                beds[h] = 1 + pick(mostBeds);
                places[h] = pick(apart + 1);
            }
            for (int k = 0; k < KIDS; k++) {
                schools[k] = pick(apart + 1);
                for (int h = 0; h < HOMES; h++) may[k][h] = pick(6) < open;
            }
        }

        int worth(int kid, int home) {
            return -Math.floorDiv(Math.abs(schools[kid] - places[home]), 5);
        }

        void tryFrom(int kid) {
            if (kid == KIDS) {
                int[] told = told();
                if (best == null || Arrays.compare(told, best) < 0) best = told;
                return;
            }
            for (int h = 0; h <= HOMES; h++) {
                if (h != NONE && (!may[kid][h] || beds[h] == 0)) continue;
                if (h != NONE) beds[h]--;
                chosen[kid] = h;
                tryFrom(kid + 1);
                if (h != NONE) beds[h]++;
            }
        }

        /** What the ways are ordered by: how many are left, unlike homes, worths that are missed, the homes. */
        int[] told() {
            int[] told = new int[3 + KIDS];
            boolean[] isUsed = new boolean[HOMES];
            for (int k = 0; k < KIDS; k++) {
                int h = chosen[k];
                told[3 + k] = h;
                if (h == NONE) {
                    told[0]++;
                    continue;
                }
                if (!isUsed[h]) told[1]++;
                isUsed[h] = true;
                told[2] -= worth(k, h);
            }
            return told;
        }
    }

    private static int[] answers(Case c) {
        FosterHouse x = new FosterHouse();
        for (int h = 0; h < HOMES; h++) {
            x.home(c.places[h], 1, c.beds[h]);
            x.approve(h, 0, 17, 100);
        }
        for (int k = 0; k < KIDS; k++) {
            x.child(5000, 0, 3, c.schools[k], 0);
            x.order(k, FosterHouse.CARE, 0, 10);
            for (int h = 0; h < HOMES; h++) if (!c.may[k][h]) x.wish(k, h, false);
        }
        int[] told = new int[3 + KIDS];
        told[0] = KIDS - x.placeAll(3);
        for (int k = 0; k < KIDS; k++) {
            int h = x.childIs(k, 0);
            told[3 + k] = h == FosterHouse.NONE ? NONE : h;
        }
        return told;
    }

    public static void main(String[] args) {
        int wrong = 0;
        for (int at = 0; at < CASES; at++) {
            Case c = new Case();
            c.tryFrom(0);
            int[] got = answers(c);
            // The unlike homes and the worths follow from the homes; the face does not tell them.
            got[1] = c.best[1];
            got[2] = c.best[2];
            if (!Arrays.equals(got, c.best)) {
                wrong++;
                System.out.println("case " + at + ": " + Arrays.toString(got) + ", due is " + Arrays.toString(c.best));
            }
        }
        System.out.println(CASES + " placings of five children in ten homes, " + wrong + " wrong");
        if (wrong != 0) System.exit(1);
    }
}
