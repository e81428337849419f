/**
 * The promises that speak of all GROUPS, with GROUPS of each KIND, those that pay and those that don't: what is
 * due is summed up from a table that tells of each GROUP whether it pays.
 */
public final class KindsTest {
    private static final int FARE = 3;
    private static final int FINE = 12;
    /** ALL, and LOTS of SHIFTS with each TRAIN. */
    private static final int ALL = 5;
    private static final int[] LOTS = {3, 0, 2, 0};
    /** KIND and TRAIN, STOPS, MANY, BELIEF; whether it pays; the FINE from which on it pays (-1: never). */
    private static final int[][] GROUPS = {
        {500, 1, 101, 1, 1, 0},
        {700, 1, 103, 1, 1, 0},
        {502, 1, 500, 1, 0, -1},
        {701, 1, 107, 1, 0, -1},
        {0, 1, 11, 99, 0, -1},
        {102, 1, 109, 1, 1, 0},
        {203, 1, 113, 99, 1, 3},
        {200, 12, 13, 9, 0, -1},
        {300, 1, 127, 1, 1, 5},
        {303, 2, 131, 99, 0, -1},
        {402, 3, 137, 19, 1, 9},
        {400, 15, 17, 19, 0, 27},
        {600, 1, 139, 1, 1, 0},
        {601, 1, 149, 1, 0, -1},
        {3, 45, 151, 1, 0, -1},
        {401, 1, 157, 9, 0, -1},
    };

    private KindsTest() {
    }

    public static void main(String[] args) {
        promise11();
        promise23();
        promise24();
        promise25();
        promise27();
        promise30();
        promise31();
        promise32();
        promise33();
        promise35();
        Due.end();
    }

    /**
     * LINE 0: 0, 1, 2, LINE 1: 2, 3; TRAINS 0: LINE 0 at 100, 1: back at 1100, 2: LINE 1 at 150, 3: LINE 0 at 200.
     * SHIFTS of TRAIN 0 with 3 LOTS, of TRAIN 2 with 2. CAUGHT and SPARED of TRAIN 0 were FOUND; it is DAY 2.
     */
    private static CoatsByLot make() {
        CoatsByLot x = Due.withStations(4);
        x.line(0, 1, 10);
        x.extend(0, 2, 7);
        x.line(2, 3, 20);
        x.train(0, 100, 0);
        x.train(0, 1100, 1);
        x.train(1, 150, 0);
        x.train(0, 200, 0);
        x.shift(1);
        x.shift(4);
        x.lots(0, 1);
        for (int group = 0; group < GROUPS.length; group++) {
            int[] told = GROUPS[group];
            if (group == 2) {
                x.days(2);
            }
            x.group(told[0], told[1], told[2], told[3]);
        }
        x.lots(0, LOTS[0]);
        x.lots(1, LOTS[2]);
        x.price(1, FINE);
        return x;
    }

    private static boolean pays(int group) {
        return GROUPS[group][4] == 1;
    }

    private static int trainOf(int group) {
        return GROUPS[group][0] % 100;
    }

    private static int many(int group) {
        return GROUPS[group][2];
    }

    private static int unpaid() {
        int sum = 0;
        for (int group = 0; group < GROUPS.length; group++) {
            sum += pays(group) ? 0 : many(group);
        }
        return sum;
    }

    private static void fraction(String what, long gotAbove, long gotBelow, long above, long below) {
        long gcd = Model.gcd(above, below);
        Due.due(what + ", above", gotAbove, above / gcd);
        Due.due(what + ", below", gotBelow, below / gcd);
    }

    private static void promise11() {
        Due.promise(11);
        CoatsByLot x = make();
        for (int group = 0; group < GROUPS.length; group++) {
            Due.due("PAYS of GROUP " + group, x.ofGroup(group, 7), pays(group) ? 1 : 0);
        }
    }

    private static void promise23() {
        Due.promise(23);
        Due.due("unpaid() of all KINDS", make().unpaid(), unpaid());
    }

    private static void promise24() {
        Due.promise(24);
        CoatsByLot x = make();
        long sum = 0;
        for (int group = 0; group < GROUPS.length; group++) {
            sum += (long) many(group) * (pays(group) ? FARE * ALL : FINE * LOTS[trainOf(group)]);
        }
        fraction("coin() of all KINDS", x.coin(0), x.coin(1), sum, ALL);
    }

    /** READING of TRAIN 0 pay with 1 LOT of up to 4, and with 2 of 5; most of those that don't are on TRAIN 2. */
    private static void promise25() {
        CoatsByLot x = make();
        for (int n = 1; n <= 5; n++) {
            int first = n == 5 ? 2 : 1;
            Due.promise(25);
            Due.due("best() of all KINDS: UNPAID by " + n, x.best(n, -1), unpaid());
            Due.due("best() of all KINDS: LOTS of 0 by " + n, x.best(n, 0), first);
            Due.due("best() of all KINDS: LOTS of 1 by " + n, x.best(n, 1), n - first);
            Due.promise(26);
            CoatsByLot y = make();
            Due.due("plan() of all KINDS", y.plan(n), unpaid());
            Due.due("LOTS of 1 behind plan(" + n + ")", y.ofShift(1, 1), n - first);
        }
    }

    private static void promise27() {
        boolean[] wasDrawn = new boolean[2];
        for (int z = 1; z <= 40; z++) {
            CoatsByLot x = make();
            x.seed(z);
            int shift = (z * 1103515245 + 12345 >>> 8) % ALL < LOTS[0] ? 0 : 1;
            wasDrawn[shift] = true;
            int found = 0;
            for (int group = 0; group < GROUPS.length; group++) {
                found += !pays(group) && trainOf(group) == 2 * shift ? many(group) : 0;
            }
            Due.promise(27);
            int purse = x.count(7);
            Due.due("days() of all KINDS", x.days(1), found);
            Due.due("PURSE of all KINDS", x.count(7) - purse, FINE * found);
            Due.due("p of WEIGHING, on TRAIN 0", x.ofGroup(7, 5), shift == 0 ? 19 : 9);
            Due.due("p of SHORT, on TRAIN 0", x.ofGroup(11, 5), shift == 0 ? 29 : 19);
            Due.due("UNTIL of CAUGHT, on TRAIN 2", x.ofGroup(2, 6), shift == 1 ? 32 : 0);
            for (int group : new int[] {0, 1, 2, 3, 4, 5, 6, 8, 9, 10, 12, 13, 14, 15}) {
                Due.due("BELIEF of GROUP " + group, x.ofGroup(group, 5), GROUPS[group][3]);
            }
            Due.due("UNTIL of CAUGHT who pays", x.ofGroup(0, 6), 30);
            Due.due("UNTIL of SPARED who pays", x.ofGroup(1, 6), 31);
            for (int group = 3; group < GROUPS.length; group++) {
                Due.due("UNTIL of GROUP " + group, x.ofGroup(group, 6), 0);
            }
            Due.promise(28);
            Due.due("find() of all KINDS", x.find(2, 1), found);
            Due.due("its RIGHT number", x.find(2, 2), found * ALL / LOTS[2 * shift]);
        }
        Due.due("both SHIFTS were drawn", wasDrawn[0] && wasDrawn[1] ? 1 : 0, 1);
    }

    private static void promise30() {
        Due.promise(30);
        CoatsByLot x = make();
        Due.due("TRAINS behind TRAIN 0", x.telling(0, 0, 600, 0), 8);
        Due.due("UNPAID of all KINDS, when READING of TRAIN 3 pay", x.telling(0, 0, 600, 1), unpaid() - many(9));
        Due.due("UNPAID of all KINDS, when READING of none pay", x.telling(3, 0, 600, 1), unpaid());
    }

    private static int unpaidWith(int fine) {
        int sum = 0;
        for (int[] group : GROUPS) {
            sum += group[5] < 0 || fine < group[5] ? group[2] : 0;
        }
        return sum;
    }

    private static void promise31() {
        Due.promise(31);
        CoatsByLot x = make();
        for (int fine : new int[] {0, 2, 3, 4, 5, 8, 9, 26, 27, 28, 999}) {
            int most = unpaidWith(fine);
            int least = fine;
            while (least > 0 && unpaidWith(least - 1) <= most) {
                least--;
            }
            Due.due("turn() of all KINDS, for " + most, x.turn(most), least);
        }
        Due.due("turn() of all KINDS, for fewer than ever pay", x.turn(unpaidWith(999) - 1), Due.NONE);
    }

    private static void promise32() {
        Due.promise(32);
        CoatsByLot x = make();
        // where each of the first three STOPS of a TRAIN is; -1: it has none
        int[][] stops = {{0, 1, 2}, {2, 1, 0}, {2, 3, -1}, {0, 1, 2}};
        for (int station = 0; station < 4; station++) {
            int sum = 0;
            for (int group = 0; group < GROUPS.length; group++) {
                int from = GROUPS[group][1] / 10;
                boolean isThere = from < 3 && stops[trainOf(group)][from] == station;
                sum += isThere && !pays(group) ? many(group) : 0;
            }
            Due.due("gate() of all KINDS, at " + station, x.gate(station, 7), FARE * sum - 7);
        }
    }

    private static void promise33() {
        Due.promise(33);
        CoatsByLot x = make();
        long sum = 0;
        for (int group = 0; group < GROUPS.length; group++) {
            sum += pays(group) ? (long) many(group) * LOTS[trainOf(group)] : 0;
        }
        for (int e : new int[] {0, 1, 7, 1000}) {
            fraction("wrong() of all KINDS by " + e, x.wrong(e, 0), x.wrong(e, 1), e * sum, 1000L * ALL);
        }
    }

    private static void promise35() {
        Due.promise(35);
        CoatsByLot x = make();
        int[] riding = new int[2];
        int[] free = new int[2];
        for (int group = 0; group < GROUPS.length; group++) {
            int line = trainOf(group) == 2 ? 1 : 0;
            riding[line] += many(group);
            free[line] += pays(group) ? 0 : many(group);
        }
        int first = free[0] * 100 / riding[0];
        int second = free[1] * 100 / riding[1];
        Due.due("that shares of both LINES differ", first != second ? 1 : 0, 1);
        Due.due("fair() of all KINDS: the LINE", x.fair(0), first > second ? 0 : 1);
        Due.due("fair() of all KINDS: of 100", x.fair(1), Math.max(first, second));
    }
}
