/** Boundary cases of promises 27 to 29: DAYS, what is found, and its average. */
public final class DaysEdgesTest {
    private DaysEdgesTest() {
    }

    public static void main(String[] args) {
        promise27();
        promise27OfTheLastDay();
        promise27ThatIsRefused();
        promise27OfDraws();
        promise27OfDrawsThatWrap();
        promise27OfBelief();
        promise27OfPurse();
        promise27OfManyFinds();
        promise28();
        promise28OfRightNumbers();
        promise29();
        Due.end();
    }

    /** One SHIFT of one TRAIN with LOTS, one RIDER on it. */
    private static CoatsByLot withRider() {
        CoatsByLot x = Edge.withLots(1, 1);
        x.group(0, 1, 1, 1);
        return x;
    }

    private static CoatsByLot onDay(int day) {
        CoatsByLot x = withRider();
        Edge.pass(x, day);
        return x;
    }

    private static void promise27() {
        Due.promise(27);
        Edge.bounds("n", () -> withRider(), 1, 50, (x, v) -> x.days(v));
        for (int n = 1; n <= 50; n++) {
            CoatsByLot x = withRider();
            Due.due("days(" + n + ")", x.days(n), n);
            Due.due("TODAY behind days(" + n + ")", x.count(0), n);
        }
        Due.due("nobody is FOUND: it", Edge.withLots(1, 9).days(50), 0);
        Edge.Maker none = () -> Edge.withLots(2, 0, 0);
        Due.due("ALL is 0", none.make().days(1), Due.STATE);
        Due.due("ALL is 0, for 50", none.make().days(50), Due.STATE);
        Edge.beyond("BEYOND ahead of STATE: n", none, (x, v) -> x.days(v), Edge.MIN, -1, 0, 51, Edge.MAX);
        CoatsByLot x = withRider();
        x.lots(0, 0);
        Due.due("ALL is 0 again", x.days(1), Due.STATE);
        x.lots(0, 9);
        Due.due("ALL is 9", x.days(1), 1);
    }

    private static void promise27OfTheLastDay() {
        for (int day = 349; day <= 399; day++) {
            int left = 399 - day;
            if (left >= 1) {
                CoatsByLot x = onDay(day);
                Due.due("up to DAY 399 from " + day, x.days(left), left);
                Due.due("TODAY", x.count(0), 399);
            }
            if (left < 50) {
                CoatsByLot x = onDay(day);
                Due.due("up to DAY 400 from " + day, x.days(left + 1), Due.STATE);
                Due.due("TODAY, as it was", x.count(0), day);
            }
        }
        Due.due("50 more from DAY 399", onDay(399).days(50), Due.STATE);
        Edge.beyond("BEYOND ahead of STATE on DAY 399: n", () -> onDay(399), (x, v) -> x.days(v),
                Edge.MIN, 0, 51, Edge.MAX);
    }

    private static void promise27ThatIsRefused() {
        CoatsByLot x = onDay(398);
        int z = x.count(12);
        int purse = x.count(7);
        Due.due("days(2) on DAY 398", x.days(2), Due.STATE);
        Due.due("days(51) on DAY 398", x.days(51), Due.BEYOND);
        Due.due("no draw was made: z", x.count(12), z);
        Due.due("no FINE came in: PURSE", x.count(7), purse);
        Due.due("days(1) on DAY 398", x.days(1), 1);
        Due.due("one draw was made: z", x.count(12), z * 1103515245 + 12345);
        Due.due("one FINE came in: PURSE", x.count(7), purse + 60);
    }

    /** A z behind which the next draw leaves a rest by ALL. */
    private static int seedFor(int rest, int all) {
        for (int z = 1; z < 1000000; z++) {
            if ((z * 1103515245 + 12345 >>> 8) % all == rest) {
                return z;
            }
        }
        return 0;
    }

    private static void drawn(int... lots) {
        int all = 0;
        for (int v : lots) {
            all += v;
        }
        int first = 0;
        for (int shift = 0; shift < lots.length; shift++) {
            for (int rest = first; rest < first + lots[shift]; rest++) {
                CoatsByLot x = Edge.withLots(lots.length, lots);
                x.seed(seedFor(rest, all));
                x.days(1);
                Due.due("the SHIFT of rest " + rest + " by " + all, x.find(0, 0), shift);
            }
            first += lots[shift];
        }
    }

    private static void promise27OfDraws() {
        drawn(1);
        drawn(1, 1);
        drawn(0, 1, 0);
        drawn(0, 0, 2, 0, 3, 0, 0, 1);
        drawn(9, 0, 0, 0, 0, 0, 0, 0);
        drawn(9, 9, 9, 9, 9, 9, 9, 9);
        drawn(1, 2, 3, 4, 5, 6, 7, 8);
    }

    private static void promise27OfDrawsThatWrap() {
        for (int z : new int[] {Edge.MIN, -1, 0, 1, 2, Edge.MAX}) {
            CoatsByLot x = Edge.withLots(7, 9, 9, 9, 9, 9, 9, 9);
            x.seed(z);
            x.days(1);
            int next = z * 1103515245 + 12345;
            Due.due("z behind " + z, x.count(12), next);
            Due.due("the SHIFT behind " + z, x.find(0, 0), (next >>> 8) % 63 / 9);
        }
        // one that is below 0: >>> and not >> tells the rest
        int below = 1;
        while (below * 1103515245 + 12345 >= 0) {
            below++;
        }
        CoatsByLot x = Edge.withLots(5, 1, 1, 1, 1, 1);
        x.seed(below);
        x.days(1);
        Due.due("the SHIFT of a z below 0", x.find(0, 0), (below * 1103515245 + 12345 >>> 8) % 5);
    }

    private static void promise27OfBelief() {
        for (int kind = 2; kind <= 4; kind++) {
            CoatsByLot x = Edge.withLots(1, 1);
            Due.text(x, 0, "0");
            x.group(100 * kind, 1, 1, 1);
            x.group(100 * kind, 1, 1, 89);
            x.group(100 * kind, 1, 1, 99);
            x.group(100 * kind, 1, 1, 9);
            x.days(1);
            Due.due("BELIEF 0 of 9 of " + kind + " who are FOUND", x.ofGroup(3, 5), 19);
            Due.due("BELIEF 0 of 1 of " + kind + " who are FOUND", x.ofGroup(0, 5), 11);
            Due.due("BELIEF 8 of 9 of " + kind + " who are FOUND", x.ofGroup(1, 5), 99);
            Due.due("BELIEF 9 of 9 of " + kind + " who are FOUND", x.ofGroup(2, 5), 99);
            x.days(50);
            Due.due("BELIEF 1 of 1 of " + kind + " who are FOUND", x.ofGroup(0, 5), 11);
            for (int group = 0; group < 4; group++) {
                Due.due("UNTIL of " + kind + " who are FOUND, which stays", x.ofGroup(group, 6), 0);
            }
        }
        for (int kind : new int[] {5, 7}) {
            CoatsByLot x = Edge.withLots(1, 1);
            x.group(100 * kind, 1, 1, 19);
            x.days(50);
            Due.due("BELIEF of " + kind + " who are FOUND, which stays", x.ofGroup(0, 5), 19);
        }
        CoatsByLot x = Edge.withLots(1, 1);
        x.train(0, 1100, 0);
        x.shift(2);
        x.lots(0, 0);
        x.lots(1, 1);
        x.group(1, 1, 1, 12);
        x.group(601, 1, 1, 12);
        x.group(200, 1, 1, 9);
        Due.due("days() of RIDER and LATE", x.days(1), 2);
        for (int group = 0; group < 2; group++) {
            Due.due("nothing changes: BELIEF of " + group, x.ofGroup(group, 5), 12);
            Due.due("nothing changes: UNTIL of " + group, x.ofGroup(group, 6), 0);
        }
        Due.due("BELIEF of who isn't on its TRAINS", x.ofGroup(2, 5), 9);
    }

    private static void promise27OfPurse() {
        CoatsByLot x = Edge.withLots(1, 1);
        for (int i = 0; i < 16; i++) {
            x.group(0, 1, 999, 1);
        }
        x.price(1, 0);
        Due.due("days() with FINE 0", x.days(1), 16 * 999);
        Due.due("PURSE of FINE 0", x.count(7), 0);
        x.price(1, 999);
        int each = 999 * 999 * 16;
        int whole = 1999999999 / each;
        Edge.pass(x, whole);
        Due.due("PURSE that has room for a part", x.count(7), whole * each);
        Due.due("days() when it is filled", x.days(1), 16 * 999);
        Due.due("PURSE at most", x.count(7), 1999999999);
        Due.due("days() when it is full", x.days(1), 16 * 999);
        Due.due("PURSE at most, once more", x.count(7), 1999999999);
        for (int sum = 1999999997; sum <= 2000000001; sum++) {
            Due.due("PURSE of FINES of " + sum, purseOf(sum), Math.min(sum, 1999999999));
        }
    }

    /** PURSE behind FINES that are just so much together. */
    private static int purseOf(int sum) {
        CoatsByLot x = Edge.withLots(2, 1, 0);
        for (int i = 0; i < 15; i++) {
            x.group(0, 1, 999, 1);
        }
        x.group(1, 1, 1, 1);
        int many = 15 * 999;
        x.price(1, 999);
        Edge.pass(x, 133);
        int left = sum - 133 * many * 999;
        x.price(1, left / many);
        x.days(1);
        x.lots(0, 0);
        x.lots(1, 1);
        for (left %= many; left > 0; left -= 999) {
            x.price(1, Math.min(left, 999));
            x.days(1);
        }
        return x.count(7);
    }

    private static void promise27OfManyFinds() {
        CoatsByLot x = withRider();
        Edge.pass(x, 59);
        Due.due("FINDS of 59 DAYS", x.count(6), 59);
        x.days(1);
        Due.due("FINDS of 60 DAYS", x.count(6), 60);
        x.group(0, 1, 7, 1);
        int purse = x.count(7);
        Due.due("days() when no more are kept", x.days(1), 8);
        Due.due("FINDS of 61 DAYS", x.count(6), 60);
        Due.due("the last one that is kept", x.find(59, 1), 1);
        Due.due("PURSE goes on", x.count(7), purse + 480);
        Due.due("TODAY goes on", x.count(0), 61);
    }

    private static CoatsByLot withFinds(int finds) {
        return onDay(finds);
    }

    private static void promise28() {
        Due.promise(28);
        Edge.bounds("what", () -> withFinds(3), 0, 2, (x, v) -> x.find(0, v));
        Edge.beyond("i", () -> withFinds(3), (x, v) -> x.find(v, 0), Edge.MIN, -1);
        Edge.taken("i", () -> withFinds(3), (x, v) -> x.find(v, 0), 0, 2);
        Edge.taken("i, when there are 60", () -> withFinds(60), (x, v) -> x.find(v, 2), 0, 59);
        Edge.beyond("BEYOND ahead of NONE: what", () -> withFinds(3), (x, v) -> x.find(3, v), -1, 3);
        Edge.beyond("BEYOND ahead of NONE: i", () -> withFinds(0), (x, v) -> x.find(v, 0), -1);
        Due.due("no FINDS", withFinds(0).find(0, 0), Due.NONE);
        Due.due("behind the last of 3", withFinds(3).find(3, 1), Due.NONE);
        Due.due("far behind the last of 3", withFinds(3).find(Edge.MAX, 2), Due.NONE);
        Due.due("behind the last of 60", withFinds(61).find(60, 0), Due.NONE);
        CoatsByLot x = Edge.withLots(1, 9);
        x.days(1);
        for (int what = 0; what < 3; what++) {
            Due.due("a FIND with MANY 0 is kept: " + what, x.find(0, what), 0);
        }
    }

    private static void promise28OfRightNumbers() {
        CoatsByLot x = Edge.withLots(2, 0, 9, 0, 9, 0, 9, 0, 9);
        x.group(1, 1, 1, 1);
        x.lots(0, 1);
        x.days(50);
        for (int i = 0; i < 50; i++) {
            boolean isFirst = x.find(i, 0) == 0;
            Due.due("MANY of " + i, x.find(i, 1), isFirst ? 0 : 1);
            // 1 * 37 / 9, cut
            Due.due("RIGHT of " + i, x.find(i, 2), isFirst ? 0 : 4);
        }
        CoatsByLot y = Edge.withLots(1, 1, 9, 9, 9, 9, 9, 9, 9);
        for (int i = 0; i < 16; i++) {
            y.group(0, 1, 999, 1);
        }
        y.seed(seedFor(0, 64));
        y.days(1);
        Due.due("the most MANY", y.find(0, 1), 16 * 999);
        Due.due("the most of RIGHT numbers", y.find(0, 2), 16 * 999 * 64);
        y.seed(seedFor(1, 64));
        y.days(1);
        Due.due("the SHIFT of 9 LOTS", y.find(1, 0), 1);
        Due.due("its RIGHT number", y.find(1, 2), 16 * 999 * 64 / 9);
    }

    private static void promise29() {
        Due.promise(29);
        Due.due("no FINDS", withFinds(0).average(), Due.NONE);
        Due.due("no FINDS, of a new object", new CoatsByLot().average(), Due.NONE);
        CoatsByLot x = Edge.withLots(1, 1);
        x.days(1);
        Due.due("one FIND with MANY 0", x.average(), 0);
        Due.due("one FIND with MANY 1", withFinds(1).average(), 1);
        x.group(0, 1, 1, 1);
        x.days(1);
        Due.due("0 and 1, cut", x.average(), 0);
        x.group(0, 1, 2, 1);
        x.days(1);
        Due.due("0, 1 and 3, cut", x.average(), 1);
        CoatsByLot y = withRider();
        Edge.pass(y, 60);
        y.group(0, 1, 999, 1);
        y.days(50);
        Due.due("60 FINDS; further ones don't count", y.average(), 1);
        CoatsByLot z = Edge.withLots(1, 9, 0, 9, 9, 9, 9, 9, 9);
        for (int i = 0; i < 16; i++) {
            z.group(0, 1, 999, 1);
        }
        Edge.pass(z, 60);
        Due.due("60 great ones", z.average(), 16 * 999 * 7);
    }
}
