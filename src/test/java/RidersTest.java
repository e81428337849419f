/** Promises 10 to 14: riders. */
public final class RidersTest {
    private RidersTest() {
    }

    public static void main(String[] args) {
        promise10();
        promise11();
        paysOfKinds();
        promise12();
        promise13();
        promise14();
        Due.end();
    }

    private static void promise10() {
        Due.promise(10);
        CoatsByLot x = new CoatsByLot();
        Due.due("group without trains", x.group(0, 1, 1, 1), Due.BEYOND);
        x = Due.withTrains();
        int[][] beyond = {
            {800, 1, 1, 1}, {-1, 1, 1, 1}, {5, 1, 1, 1}, {199, 1, 1, 1}, {Integer.MIN_VALUE, 1, 1, 1},
            {0, 11, 1, 1}, {0, 21, 1, 1}, {0, 0, 1, 1}, {0, 6, 1, 1}, {0, 60, 1, 1}, {0, 56, 1, 1},
            {0, -1, 1, 1}, {0, 105, 1, 1}, {0, 1, 0, 1}, {0, 1, 1000, 1}, {0, 1, -1, 1},
            {0, 1, 1, 0}, {0, 1, 1, 21}, {0, 1, 1, 10}, {0, 1, 1, -9}, {0, 1, 1, 109}, {0, 1, 1, 98}
        };
        for (int[] told : beyond) {
            Due.due("group(" + told[0] + ", " + told[1] + ", " + told[2] + ", " + told[3] + ")",
                    x.group(told[0], told[1], told[2], told[3]), Due.BEYOND);
        }
        Due.due("no GROUPS yet", x.count(4), 0);
        Due.due("group 0", x.group(704, 45, 999, 99), 0);
        Due.due("group 1", x.group(0, 5, 1, 1), 1);
        for (int i = 2; i < 16; i++) {
            Due.due("group " + i, x.group(100, 12, 1, 11), i);
        }
        Due.due("group 16", x.group(100, 12, 1, 11), Due.FULL);
        Due.due("BEYOND ahead of FULL", x.group(100, 12, 0, 11), Due.BEYOND);
    }

    private static void promise11() {
        Due.promise(11);
        CoatsByLot x = Due.withTrains();
        x.group(0, 1, 1, 1);
        x.group(402, 15, 123, 27);
        int[] due = {4, 2, 1, 5, 123, 27, 0};
        for (int what = 0; what < due.length; what++) {
            Due.due("ofGroup(1, " + what + ")", x.ofGroup(1, what), due[what]);
        }
        x.group(702, 45, 1, 99);
        Due.due("STOP from 4", x.ofGroup(2, 2), 4);
        Due.due("STOP to 5", x.ofGroup(2, 3), 5);
        Due.due("ofGroup what 8", x.ofGroup(1, 8), Due.BEYOND);
        Due.due("ofGroup what -1", x.ofGroup(1, -1), Due.BEYOND);
        Due.due("ofGroup of none", x.ofGroup(3, 0), Due.BEYOND);
        Due.due("ofGroup of -1", x.ofGroup(-1, 0), Due.BEYOND);
    }

    private static int pays(CoatsByLot x, int kt, int ft, int pq) {
        return x.ofGroup(x.group(kt, ft, 1, pq), 7);
    }

    private static void paysOfKinds() {
        CoatsByLot x = Due.withTrains();
        x.price(0, 7);
        x.price(1, 63);
        Due.due("RIDER", pays(x, 0, 1, 11), 0);
        Due.due("PAYING", pays(x, 100, 1, 1), 1);
        Due.due("WEIGHING, just worth it", pays(x, 200, 1, 19), 1);
        Due.due("WEIGHING, never looked at", pays(x, 200, 1, 9), 0);
        Due.due("READING without LOTS", pays(x, 300, 1, 11), 0);
        Due.due("LATE in time", pays(x, 603, 1, 1), 1);
        Due.due("LATE at 1100", pays(x, 604, 1, 1), 0);
        Due.due("CAUGHT at first", pays(x, 500, 1, 1), 0);
        Due.due("SPARED at first", pays(x, 700, 1, 1), 0);
        x.price(1, 30);
        Due.due("WEIGHING, not worth it", x.ofGroup(2, 7), 0);
        Due.due("SHORT by 3 STOPS, FARE by 2 cut", pays(x, 400, 14, 19), 1);
        Due.due("SHORT by 4 STOPS", pays(x, 400, 15, 19), 0);
        x.shift(1);
        x.shift(2);
        x.lots(0, 1);
        x.lots(1, 8);
        x.price(1, 62);
        Due.due("READING 1 of 9, too low", x.ofGroup(4, 7), 0);
        x.price(1, 63);
        Due.due("READING 1 of 9", x.ofGroup(4, 7), 1);
        Due.text(x, 0, "q=9&p=1&n=1");
        Due.due("READING by a TEXT, ODDS as they are", x.ofGroup(4, 7), 1);
        x.lots(0, 2);
        x.lots(1, 4);
        Due.text(x, 0, "q=6&p=2");
        Due.due("READING by a TEXT, not in lowest terms", x.ofGroup(4, 7), 1);
        x.lots(0, 0);
        x.lots(1, 0);
        Due.text(x, 0, "q=1&p=0");
        Due.due("READING, 0 of 1 without LOTS", x.ofGroup(4, 7), 1);
        Due.text(x, 0, "0-1");
        Due.due("what isn't 0 is paying", x.ofGroup(2, 7), 1);
        Due.text(x, 0, "n=4");
        Due.due("n is how many STOPS: 4", x.ofGroup(10, 7), 1);
        Due.due("n is how many STOPS: 3", x.ofGroup(9, 7), 0);
        x.train(0, 1099, 0);
        Due.due("LATE at 1099", pays(x, 605, 1, 1), 1);
    }

    private static void promise12() {
        Due.promise(12);
        CoatsByLot x = Due.withTrains();
        int[][] under = {
            {0}, {0, 1}, {0, 2}, {0, 2, 3}, {0, 2, 4}, {0, 5}, {0, 1, 6}, {0, 5, 7}
        };
        for (int kind = 0; kind < 8; kind++) {
            x.group(100 * kind, 1, 10 + kind, 1);
            for (int as = 0; as < 8; as++) {
                int due = Due.KIND;
                for (int above : under[kind]) {
                    due = above == as ? 10 + kind : due;
                }
                Due.due("KIND " + kind + " as " + as, x.as(kind, as), due);
            }
        }
        Due.due("told KIND", x.told(5), 64 - 19);
        Due.due("as kind 8", x.as(0, 8), Due.BEYOND);
        Due.due("as kind -1", x.as(0, -1), Due.BEYOND);
        Due.due("as of no group", x.as(8, 0), Due.BEYOND);
        Due.due("as of -1", x.as(-1, 0), Due.BEYOND);
    }

    private static void promise13() {
        Due.promise(13);
        CoatsByLot x = Due.withTrains();
        x.group(200, 1, 5, 12);
        Due.due("believe 99", x.believe(0, 99), 12);
        Due.due("believe 01", x.believe(0, 1), 99);
        Due.due("believe q 0", x.believe(0, 10), Due.BEYOND);
        Due.due("believe p above q", x.believe(0, 54), Due.BEYOND);
        Due.due("believe 109", x.believe(0, 109), Due.BEYOND);
        Due.due("believe -1", x.believe(0, -1), Due.BEYOND);
        Due.due("believe of no group", x.believe(1, 1), Due.BEYOND);
        Due.due("believe of -1", x.believe(-1, 1), Due.BEYOND);
        Due.due("as it was", x.ofGroup(0, 5), 1);
    }

    private static void promise14() {
        Due.promise(14);
        CoatsByLot x = new CoatsByLot();
        Due.due("FARE", x.price(0, 99), 3);
        Due.due("FARE 1", x.price(0, 1), 99);
        Due.due("FARE 0", x.price(0, 0), Due.BEYOND);
        Due.due("FARE 100", x.price(0, 100), Due.BEYOND);
        Due.due("FINE", x.price(1, 999), 60);
        Due.due("FINE 0", x.price(1, 0), 999);
        Due.due("FINE -1", x.price(1, -1), Due.BEYOND);
        Due.due("FINE 1000", x.price(1, 1000), Due.BEYOND);
        Due.due("price 2", x.price(2, 5), Due.BEYOND);
        Due.due("price -1", x.price(-1, 5), Due.BEYOND);
        Due.due("FARE as it was", x.price(0, 5), 1);
        Due.due("FINE as it was", x.price(1, 5), 0);
    }
}
