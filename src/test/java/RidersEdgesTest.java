/** Boundary cases of promises 10 to 14: riders. */
public final class RidersEdgesTest {
    private RidersEdgesTest() {
    }

    public static void main(String[] args) {
        promise10();
        promise10OfAllNumbers();
        promise10WhenFull();
        promise11();
        promise11Weighing();
        promise11Short();
        promise11Reading();
        promise11Late();
        promise11Caught();
        promise11Spared();
        promise12();
        promise13();
        promise14();
        Due.end();
    }

    private static CoatsByLot withTrain() {
        return Edge.with(2, 1, 1);
    }

    private static CoatsByLot withGroups(int groups) {
        CoatsByLot x = withTrain();
        for (int i = 0; i < groups; i++) {
            x.group(0, 1, 1 + i, 1);
        }
        return x;
    }

    private static void promise10() {
        Due.promise(10);
        Edge.Maker one = RidersEdgesTest::withTrain;
        Edge.bounds("MANY", one, 1, 999, (x, v) -> x.group(0, 1, v, 1));
        Edge.beyond("kt", one, (x, v) -> x.group(v, 1, 1, 1), Edge.MIN, -100, -1, 1, 99, 800, 1000, Edge.MAX);
        Edge.taken("kt", one, (x, v) -> x.group(v, 1, 1, 1), 0, 700);
        Edge.beyond("ft", one, (x, v) -> x.group(0, v, 1, 1), Edge.MIN, -1, 100, 101, Edge.MAX);
        Edge.beyond("pq", one, (x, v) -> x.group(0, 1, 1, v), Edge.MIN, -1, 100, 101, Edge.MAX);
        CoatsByLot x = withTrain();
        x.group(0, 1, 0, 1);
        x.group(0, 1, 1000, 1);
        Due.due("how many, of refused ones", x.count(4), 0);
        Due.due("group()", x.group(700, 45, 999, 99), 0);
        Due.due("UNTIL at first", x.ofGroup(0, 6), 0);
        Due.due("STOP from, which the TRAIN hasn't", x.ofGroup(0, 2), 4);
        Due.due("STOP to, which the TRAIN hasn't", x.ofGroup(0, 3), 5);
        Due.due("MANY", x.ofGroup(0, 4), 999);
    }

    /** As the document tells them: 100 * KIND and the TRAIN, 10 * from and to, 10 * p and q. */
    private static void promise10OfAllNumbers() {
        for (int trains : new int[] {1, 5, 12}) {
            CoatsByLot roads = Edge.with(2, 1, trains);
            for (int kt = -120; kt < 920; kt++) {
                boolean as = kt >= 0 && kt < 800 && kt % 100 < trains;
                roads = roads.count(4) < 16 && roads.told(1) < 90 ? roads : Edge.with(2, 1, trains);
                int due = as ? roads.count(4) : Due.BEYOND;
                Due.due("kt " + kt + " with " + trains + " TRAINS", roads.group(kt, 1, 1, 1), due);
                if (as) {
                    Due.due("KIND of kt " + kt, roads.ofGroup(due, 0), kt / 100);
                    Due.due("TRAIN of kt " + kt, roads.ofGroup(due, 1), kt % 100);
                }
            }
        }
        for (int ft = -20; ft < 120; ft++) {
            boolean as = ft >= 0 && ft / 10 < ft % 10 && ft % 10 <= 5;
            CoatsByLot x = withTrain();
            Due.due("ft " + ft, x.group(0, ft, 1, 1), as ? 0 : Due.BEYOND);
            Due.due("from of ft " + ft, x.ofGroup(0, 2), as ? ft / 10 : Due.BEYOND);
            Due.due("to of ft " + ft, x.ofGroup(0, 3), as ? ft % 10 : Due.BEYOND);
        }
        for (int pq = -20; pq < 140; pq++) {
            boolean as = pq >= 0 && pq % 10 >= 1 && pq / 10 <= pq % 10;
            CoatsByLot x = withTrain();
            Due.due("pq " + pq, x.group(0, 1, 1, pq), as ? 0 : Due.BEYOND);
            Due.due("BELIEF of pq " + pq, x.ofGroup(0, 5), as ? pq : Due.BEYOND);
        }
    }

    private static void promise10WhenFull() {
        CoatsByLot x = withTrain();
        for (int group = 0; group < 16; group++) {
            Due.due("group()", x.group(0, 1, 1 + group, 1), group);
        }
        Due.due("group() of 16", x.group(0, 1, 1, 1), Due.FULL);
        Due.due("group() of 16, once more", x.group(0, 1, 1, 1), Due.FULL);
        Due.due("how many there are", x.count(4), 16);
        Due.due("the last one's MANY", x.ofGroup(15, 4), 16);
        Edge.Maker full = () -> withGroups(16);
        Edge.beyond("BEYOND ahead of FULL: kt", full, (y, v) -> y.group(v, 1, 1, 1), -1, 1, 800);
        Edge.beyond("BEYOND ahead of FULL: ft", full, (y, v) -> y.group(0, v, 1, 1), -1, 0, 6, 11);
        Edge.beyond("BEYOND ahead of FULL: MANY", full, (y, v) -> y.group(0, 1, v, 1), 0, 1000);
        Edge.beyond("BEYOND ahead of FULL: pq", full, (y, v) -> y.group(0, 1, 1, v), -1, 0, 21);
    }

    private static void promise11() {
        Due.promise(11);
        Edge.bounds("group", () -> withGroups(3), 0, 2, (x, v) -> x.ofGroup(v, 0));
        Edge.bounds("group, when there are 16", () -> withGroups(16), 0, 15, (x, v) -> x.ofGroup(v, 7));
        Edge.bounds("what", () -> withGroups(1), 0, 7, (x, v) -> x.ofGroup(0, v));
        CoatsByLot x = withTrain();
        x.group(0, 45, 1, 99);
        x.group(100, 1, 1, 1);
        Due.due("PAYS of RIDER, who believes most", x.ofGroup(0, 7), 0);
        Due.due("PAYS of PAYING, who believes least", x.ofGroup(1, 7), 1);
        x.price(1, 999);
        Due.due("PAYS of RIDER with the most FINE", x.ofGroup(0, 7), 0);
        x.price(1, 0);
        Due.due("PAYS of PAYING without FINE", x.ofGroup(1, 7), 1);
    }

    /** PAYS of a lone GROUP of a KIND. */
    private static int pays(int kind, int fare, int fine, int ft, int pq) {
        CoatsByLot x = withTrain();
        x.price(0, fare);
        x.price(1, fine);
        x.group(100 * kind, ft, 1, pq);
        return x.ofGroup(0, 7);
    }

    private static void promise11Weighing() {
        for (int kind : new int[] {2, 4}) {
            Due.due("PAYS of " + kind + ", FARE * q is FINE * p", pays(kind, 20, 180, 5, 19), 1);
            Due.due("PAYS of " + kind + ", 1 less FINE", pays(kind, 20, 179, 5, 19), 0);
            Due.due("PAYS of " + kind + ", 1 more FARE", pays(kind, 21, 180, 5, 19), 0);
            Due.due("PAYS of " + kind + ", p 0", pays(kind, 2, 999, 1, 9), 0);
            Due.due("PAYS of " + kind + ", p 0 of 1", pays(kind, 2, 999, 1, 1), 0);
            Due.due("PAYS of " + kind + ", p is q", pays(kind, 99, 99, 5, 99), 1);
            Due.due("PAYS of " + kind + ", FINE 0", pays(kind, 2, 0, 1, 99), 0);
        }
        CoatsByLot x = withTrain();
        x.group(200, 1, 1, 9);
        Due.text(x, 0, "0-1");
        Due.due("PAYS by a WEIGH of -1", x.ofGroup(0, 7), 1);
        Due.text(x, 0, "0");
        Due.due("PAYS by a WEIGH of 0", x.ofGroup(0, 7), 0);
        Due.text(x, 0, "p=0&q=9&n=1&f=3&g=60");
        Due.due("PAYS by a WEIGH that asks for all", x.ofGroup(0, 7), 1);
    }

    private static void promise11Short() {
        for (int from = 0; from < 5; from++) {
            for (int to = from + 1; to <= 5; to++) {
                // 21 by 2 is 10, cut: 10 * 9 is 90
                int due = to - from <= 3 ? 1 : 0;
                Due.due("PAYS of SHORT from " + from + " to " + to, pays(4, 21, 90, 10 * from + to, 19), due);
                Due.due("PAYS of SHORT, 1 less FINE", pays(4, 21, 89, 10 * from + to, 19), 0);
                Due.due("PAYS of WEIGHING from " + from + " to " + to, pays(2, 21, 90, 10 * from + to, 19), 0);
            }
        }
        Due.due("PAYS of SHORT, FARE 1 by 2 is 0", pays(4, 1, 0, 3, 9), 1);
        Due.due("PAYS of SHORT, FARE 1 of 4 STOPS", pays(4, 1, 0, 4, 9), 0);
        CoatsByLot x = withTrain();
        x.group(400, 14, 1, 9);
        x.group(400, 15, 1, 9);
        Due.text(x, 0, "n=3&f=1");
        Due.due("PAYS of SHORT, n is 3", x.ofGroup(0, 7), 1);
        Due.text(x, 0, "n=4&f=3");
        Due.due("PAYS of SHORT, n is 4", x.ofGroup(1, 7), 1);
    }

    private static void promise11Reading() {
        CoatsByLot x = Edge.withLots(2, 0, 0);
        x.group(300, 1, 1, 99);
        Due.due("PAYS of READING without LOTS", x.ofGroup(0, 7), 0);
        Due.text(x, 0, "p=0&q=1");
        Due.due("PAYS of READING, 0 and 1 without LOTS", x.ofGroup(0, 7), 1);
        x.lots(1, 9);
        Due.text(x, 0, "p=0&q=9");
        Due.due("PAYS of READING, 0 of 9", x.ofGroup(0, 7), 1);
        x.lots(0, 9);
        Due.text(x, 0, "p=9&q=18");
        Due.due("PAYS of READING, 9 of 18 as they are", x.ofGroup(0, 7), 1);
        x.lots(1, 0);
        Due.text(x, 0, "p=9&q=9");
        Due.due("PAYS of READING, 9 of 9", x.ofGroup(0, 7), 1);
        Due.due("its BELIEF, which isn't asked", x.ofGroup(0, 5), 99);
        CoatsByLot y = Edge.withLots(2, 1, 9);
        y.group(300, 1, 1, 99);
        y.price(1, 30);
        Due.due("PAYS of READING, FARE * q is FINE * p", y.ofGroup(0, 7), 1);
        y.price(1, 29);
        Due.due("PAYS of READING, 1 less FINE", y.ofGroup(0, 7), 0);
    }

    private static void promise11Late() {
        int[] starts = {0, 1099, 1100, 1199};
        CoatsByLot x = Edge.with(2, 1, 0);
        for (int i = 0; i < starts.length; i++) {
            x.train(0, starts[i], 0);
            x.group(600 + i, 1, 1, 1);
            Due.due("PAYS of LATE at " + starts[i], x.ofGroup(i, 7), i < 2 ? 1 : 0);
        }
    }

    private static void promise11Caught() {
        CoatsByLot x = Edge.withLots(1, 1);
        x.group(500, 1, 1, 1);
        Due.due("PAYS of CAUGHT, UNTIL 0 on DAY 0", x.ofGroup(0, 7), 0);
        x.days(1);
        Due.due("UNTIL of CAUGHT, FOUND on DAY 0", x.ofGroup(0, 6), 30);
        Due.due("PAYS of CAUGHT, on DAY 1", x.ofGroup(0, 7), 1);
        x.days(28);
        Due.due("PAYS of CAUGHT, UNTIL 30 on DAY 29", x.ofGroup(0, 7), 1);
        x.days(1);
        Due.due("PAYS of CAUGHT, UNTIL 30 on DAY 30", x.ofGroup(0, 7), 0);
        Due.due("UNTIL of CAUGHT, not FOUND on DAY 29", x.ofGroup(0, 6), 30);
        x.days(1);
        Due.due("UNTIL of CAUGHT, FOUND on DAY 30", x.ofGroup(0, 6), 60);
        Edge.pass(x, 398 - 31);
        x.group(500, 1, 1, 1);
        x.days(1);
        Due.due("UNTIL of CAUGHT, FOUND on DAY 398, 30 DAYS behind it", x.ofGroup(1, 6), 428);
        Due.due("PAYS of CAUGHT, on DAY 399", x.ofGroup(1, 7), 1);
    }

    private static void promise11Spared() {
        CoatsByLot x = Edge.withLots(1, 1);
        x.group(700, 1, 1, 1);
        Due.due("PAYS of SPARED, UNTIL 0", x.ofGroup(0, 7), 0);
        x.days(1);
        Due.due("UNTIL of SPARED, FOUND on DAY 0", x.ofGroup(0, 6), 1);
        Due.due("PAYS of SPARED, UNTIL 1", x.ofGroup(0, 7), 0);
        x.days(1);
        Due.due("UNTIL of SPARED, FOUND on DAY 1", x.ofGroup(0, 6), 31);
        Due.due("PAYS of SPARED, UNTIL 31 on DAY 2", x.ofGroup(0, 7), 1);
        x.days(18);
        Due.due("PAYS of SPARED, UNTIL 31 on DAY 20", x.ofGroup(0, 7), 1);
        x.days(1);
        Due.due("PAYS of SPARED, UNTIL 31 on DAY 21", x.ofGroup(0, 7), 0);
        Due.due("UNTIL of SPARED, not FOUND on DAY 20", x.ofGroup(0, 6), 31);
        x.days(1);
        Due.due("UNTIL of SPARED, FOUND on DAY 21", x.ofGroup(0, 6), 51);
        Edge.pass(x, 397 - 22);
        x.group(700, 1, 1, 1);
        x.days(1);
        Due.due("UNTIL of SPARED, FOUND on DAY 397", x.ofGroup(1, 6), 398);
        x.days(1);
        Due.due("UNTIL of SPARED, FOUND on DAY 398, 30 DAYS behind it", x.ofGroup(1, 6), 428);
        Due.due("PAYS of SPARED, on DAY 399", x.ofGroup(1, 7), 1);
    }

    private static void promise12() {
        Due.promise(12);
        Edge.bounds("group", () -> withGroups(3), 0, 2, (x, v) -> x.as(v, 0));
        Edge.bounds("group, when there are 16", () -> withGroups(16), 0, 15, (x, v) -> x.as(v, 0));
        Edge.Maker spared = () -> {
            CoatsByLot x = withTrain();
            x.group(700, 1, 999, 1);
            return x;
        };
        Edge.bounds("kind", spared, 0, 7, (x, v) -> x.as(0, v));
        Edge.beyond("BEYOND ahead of KIND: group", spared, (x, v) -> x.as(v, 1), -1, 1);
        CoatsByLot x = spared.make();
        Due.due("KIND of SPARED as PAYING", x.as(0, 1), Due.KIND);
        Due.due("KIND of SPARED as LATE", x.as(0, 6), Due.KIND);
        Due.due("SPARED as CAUGHT, which it is under", x.as(0, 5), 999);
        Due.due("SPARED as RIDER, which it is under, too", x.as(0, 0), 999);
        x.group(0, 1, 1, 1);
        Due.due("KIND of RIDER as SPARED", x.as(1, 7), Due.KIND);
        x.group(500, 1, 1, 1);
        Due.due("KIND of CAUGHT as SPARED, which is under it", x.as(2, 7), Due.KIND);
        Due.due("told(5)", x.told(5), 4);
    }

    private static void promise13() {
        Due.promise(13);
        Edge.bounds("group", () -> withGroups(3), 0, 2, (x, v) -> x.believe(v, 1));
        Edge.bounds("group, when there are 16", () -> withGroups(16), 0, 15, (x, v) -> x.believe(v, 1));
        Edge.beyond("pq", () -> withGroups(1), (x, v) -> x.believe(0, v), Edge.MIN, Edge.MAX);
        CoatsByLot x = withGroups(2);
        int was = 1;
        for (int pq = -20; pq < 140; pq++) {
            boolean as = pq >= 0 && pq % 10 >= 1 && pq / 10 <= pq % 10;
            Due.due("pq " + pq, x.believe(0, pq), as ? was : Due.BEYOND);
            was = as ? pq : was;
            Due.due("BELIEF behind pq " + pq, x.ofGroup(0, 5), was);
        }
        Due.due("BELIEF of another one", x.ofGroup(1, 5), 1);
        CoatsByLot caught = Edge.withLots(1, 1);
        caught.group(500, 1, 1, 1);
        caught.days(1);
        Due.due("BELIEF of CAUGHT who were FOUND", caught.believe(0, 99), 1);
        Due.due("UNTIL, which stays", caught.ofGroup(0, 6), 30);
        Due.due("BEYOND of no GROUP leaves it: it", x.believe(2, 11) == Due.BEYOND ? x.ofGroup(0, 5) : -1, 99);
    }

    private static void promise14() {
        Due.promise(14);
        Edge.Maker any = CoatsByLot::new;
        Edge.bounds("what", any, 0, 1, (x, v) -> x.price(v, 5));
        Edge.bounds("FARE", any, 1, 99, (x, v) -> x.price(0, v));
        Edge.bounds("FINE", any, 0, 999, (x, v) -> x.price(1, v));
        CoatsByLot x = new CoatsByLot();
        x.price(0, 99);
        x.price(1, 999);
        x.price(0, 100);
        x.price(0, 0);
        x.price(1, 1000);
        x.price(1, -1);
        x.price(2, 7);
        Due.due("FARE, behind refused ones", x.price(0, 1), 99);
        Due.due("FINE, behind refused ones", x.price(1, 0), 999);
        Due.due("the least FARE", x.price(0, 2), 1);
        Due.due("the least FINE", x.price(1, 2), 0);
        Due.due("told(1)", x.told(1), 5);
    }
}
