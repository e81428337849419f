/** Boundary cases of promises 18 to 26: SHIFTS and THE PLAN. */
public final class PlanEdgesTest {
    private PlanEdgesTest() {
    }

    public static void main(String[] args) {
        promise18();
        promise18OfWalks();
        promise18OfRules();
        promise18OfTwelve();
        promise18AsLinesAreNow();
        promise19();
        promise19WhenFull();
        promise19NeverLater();
        promise20();
        promise21();
        promise22();
        promise23();
        promise24();
        promise24OfTheMost();
        promise25();
        promise25OfLikeOnes();
        promise25OfManyShifts();
        promise25OfTrainsOfTwoShifts();
        promise26();
        Due.end();
    }

    private static void promise18() {
        Due.promise(18);
        Edge.beyond("a set, when there are no TRAINS", () -> Edge.with(2, 1, 0), (x, v) -> x.walked(v),
                Edge.MIN, -1, 0, 1, Edge.MAX);
        for (int trains : new int[] {1, 2, 11, 12}) {
            Edge.Maker some = () -> Edge.with(2, 1, trains);
            Edge.bounds("a set of " + trains + " TRAINS", some, 1, (1 << trains) - 1, (x, v) -> x.walked(v));
            Edge.beyond("a set with a bit of no TRAIN", some, (x, v) -> x.walked(v), 1 | 1 << trains, 1 | Edge.MIN);
            Edge.taken("a set of the last TRAIN alone", some, (x, v) -> x.walked(v), 1 << trains - 1);
        }
    }

    /** TRAIN 0 from STATION 0 to 1, at 100 to 110; TRAIN 1 from STATION 2 to 3, at a START. */
    private static CoatsByLot withPair(int start) {
        CoatsByLot x = Due.withStations(4);
        x.line(0, 1, 10);
        x.line(2, 3, 5);
        x.train(0, 100, 0);
        x.train(1, start, 0);
        return x;
    }

    private static void promise18OfWalks() {
        for (int minutes : new int[] {0, 1, 59, 60}) {
            for (int late = -1; late <= 1; late++) {
                CoatsByLot x = withPair(110 + minutes + late);
                Due.due("no WALK", x.walked(3), 1);
                x.walk(1, 2, minutes);
                Due.due("WALK of " + minutes + " in " + (minutes + late), x.walked(3), late < 0 ? 1 : 0);
            }
        }
        CoatsByLot x = withPair(1199);
        x.walk(0, 2, 0);
        x.walk(1, 3, 0);
        x.walk(0, 3, 0);
        Due.due("other WALKS don't help: it", x.walked(3), 1);
        x.walk(2, 1, 60);
        Due.due("the way back does: it", x.walked(3), 0);
        x.walk(2, 1, -1);
        Due.due("no WALK any longer", x.walked(3), 1);
        Due.due("no WALK is needed by one alone: it", x.walked(2), 0);
        CoatsByLot y = Edge.with(2, 1, 0);
        y.train(0, 5, 0);
        y.train(0, 6, 1);
        y.train(0, 7, 0);
        y.train(0, 5, 1);
        Due.due("at once, where one is", y.walked(7), 0);
        Due.due("two of one START", y.walked(9), 1);
        Due.due("the last of three is too late: it", y.walked(1 | 2 | 8), 1);
    }

    private static void ruled(CoatsByLot x, String text, int set, int due) {
        Due.text(x, 1, text);
        Due.due("by " + text + ", of " + set, x.walked(set), due);
    }

    private static void promise18OfRules() {
        CoatsByLot x = withPair(110);
        x.walk(1, 2, 0);
        ruled(x, "0", 3, 2);
        ruled(x, "0", 1, 2);
        ruled(x, "0-1", 3, 0);
        ruled(x, "1", 3, 0);
        ruled(x, "n=1&l=10&g=0&b=100", 1, 0);
        ruled(x, "n=1&l=5&g=0&b=110", 2, 0);
        ruled(x, "n=2&l=15&g=0&b=100", 3, 0);
        ruled(x, "g", 3, 2);
        ruled(x, "n*l*g*b", 1, 2);
        x.walk(1, 2, 1);
        ruled(x, "0", 3, 1);
        CoatsByLot y = Edge.with(2, 1, 0);
        y.train(0, 1199, 0);
        y.train(0, 0, 0);
        y.train(0, 600, 1);
        y.train(0, 0, 1);
        ruled(y, "n=1&l=1&g=0&b=1199", 1, 0);
        ruled(y, "n=1&l=1&g=0&b=0", 2, 0);
        // 0 to 1, 600 to 601, 1199 to 1200
        ruled(y, "n=3&l=1200&g=599&b=0", 7, 0);
        ruled(y, "g=598", 5, 0);
        ruled(y, "0", 10, 1);
    }

    /** TRAINS that go there and back, each at once behind the one ahead, and the last one a MINUTE later. */
    private static CoatsByLot withTwelve() {
        CoatsByLot x = Edge.with(2, 1, 0);
        for (int i = 0; i < 12; i++) {
            x.train(0, i < 11 ? i : 12, i % 2);
        }
        return x;
    }

    private static void promise18OfTwelve() {
        CoatsByLot x = withTwelve();
        Due.due("all twelve", x.walked(4095), 0);
        ruled(x, "n=12&l=13&g=1&b=0", 4095, 0);
        ruled(x, "n=11&l=11&g=0&b=0", 2047, 0);
        ruled(x, "1", 4095 - 1024, 1);
    }

    /** TRAIN 0 from 0 to 1 at 100, TRAIN 1 back at 110: what is walked follows the LINE, and WALKS, as they are now. */
    private static void promise18AsLinesAreNow() {
        CoatsByLot x = Due.withStations(3);
        x.line(0, 1, 10);
        x.train(0, 100, 0);
        x.train(0, 110, 1);
        Due.due("there and back", x.walked(3), 0);
        ruled(x, "n=2&l=20&g=0&b=100", 3, 0);
        x.extend(0, 2, 5);
        Due.due("END is later than START now", x.walked(3), 1);
        x.train(0, 115, 1);
        Due.text(x, 1, "1");
        Due.due("from where the LINE ends now", x.walked(5), 0);
        ruled(x, "n=2&l=30&g=0&b=100", 5, 0);
        ruled(x, "n=1&l=15", 1, 0);
        x.train(0, 130, 0);
        ruled(x, "g=0&l=45", 13, 0);
        x.extend(0, 1, 1);
        Due.due("END is later once more", x.walked(13), 1);
    }

    private static void promise19() {
        Due.promise(19);
        Edge.bounds("set", () -> withTwelve(), 1, 4095, (x, v) -> x.shift(v));
        Edge.beyond("set of no TRAIN", () -> Edge.with(2, 1, 3), (x, v) -> x.shift(v), 8, 9, 8 | Edge.MIN);
        Edge.beyond("a set, when there are no TRAINS", () -> Edge.with(2, 1, 0), (x, v) -> x.shift(v), -1, 0, 1);
        CoatsByLot x = withPair(110);
        Due.due("shift() without a WALK", x.shift(3), Due.STATE);
        x.walk(1, 2, 1);
        Due.due("shift() without time", x.shift(3), Due.STATE);
        x.walk(1, 2, 0);
        Due.text(x, 1, "0");
        Due.due("shift() against the rule", x.shift(3), Due.STATE);
        Due.due("shift() of one against the rule", x.shift(1), Due.STATE);
        Due.due("BEYOND ahead of STATE: it", x.shift(4), Due.BEYOND);
        Due.due("BEYOND ahead of STATE, of bits among others: it", x.shift(7), Due.BEYOND);
        Due.due("how many, of refused ones", x.count(5), 0);
        Due.text(x, 1, "1");
        Due.due("shift() that can be", x.shift(3), 0);
        Due.due("LOTS at first", x.ofShift(0, 1), 0);
        Due.due("told(3)", x.told(3), 4);
    }

    private static CoatsByLot withShifts(int trains, int shifts) {
        CoatsByLot x = Edge.with(2, 1, trains);
        for (int i = 0; i < shifts; i++) {
            x.shift(1 << i % trains);
        }
        return x;
    }

    private static void promise19WhenFull() {
        CoatsByLot x = Edge.with(2, 1, 2);
        for (int shift = 0; shift < 8; shift++) {
            Due.due("shift()", x.shift(1), shift);
        }
        Due.due("shift() of 8", x.shift(1), Due.FULL);
        Due.due("shift() of 8, once more", x.shift(2), Due.FULL);
        Due.due("STATE ahead of FULL: it", x.shift(3), Due.STATE);
        Due.due("BEYOND ahead of FULL, of none: it", x.shift(0), Due.BEYOND);
        Due.due("BEYOND ahead of FULL, of a bit: it", x.shift(4), Due.BEYOND);
        Due.text(x, 1, "0");
        Due.due("STATE of the rule ahead of FULL: it", x.shift(1), Due.STATE);
        Due.due("how many there are", x.count(5), 8);
        Due.due("TRAINS of the last one", x.ofShift(7, 0), 1);
    }

    private static void promise19NeverLater() {
        CoatsByLot x = withPair(110);
        x.walk(1, 2, 0);
        x.shift(3);
        x.lots(0, 1);
        x.group(1, 1, 5, 1);
        x.walk(1, 2, -1);
        x.extend(0, 2, 30);
        Due.text(x, 1, "0");
        Due.due("what can't be one any longer", x.walked(3), 1);
        Due.due("how many there are", x.count(5), 1);
        Due.due("TRAINS, never looked at later", x.ofShift(0, 0), 3);
        Due.due("LOTS, never looked at later", x.ofTrain(1, 6), 1);
        Due.due("DAYS, never looked at later", x.days(1), 5);
    }

    private static void promise20() {
        Due.promise(20);
        Edge.bounds("shift", () -> withShifts(2, 3), 0, 2, (x, v) -> x.lots(v, 5));
        Edge.bounds("shift, when there are 8", () -> withShifts(2, 8), 0, 7, (x, v) -> x.lots(v, 5));
        Edge.bounds("v", () -> withShifts(2, 1), 0, 9, (x, v) -> x.lots(0, v));
        CoatsByLot x = withShifts(1, 8);
        for (int shift = 0; shift < 8; shift++) {
            Due.due("LOTS at first", x.lots(shift, 9), 0);
            x.lots(shift, 10);
            x.lots(shift, -1);
            Due.due("LOTS behind refused ones", x.lots(shift, 9), 9);
        }
        Due.due("the most of ALL", x.count(8), 72);
        Due.due("LOTS of 9 become 0: it", x.lots(7, 0), 9);
        Due.due("LOTS of 0", x.lots(7, 0), 0);
        Due.due("ALL then", x.count(8), 63);
    }

    private static void promise21() {
        Due.promise(21);
        Edge.bounds("shift", () -> withShifts(2, 3), 0, 2, (x, v) -> x.ofShift(v, 0));
        Edge.bounds("shift, when there are 8", () -> withShifts(2, 8), 0, 7, (x, v) -> x.ofShift(v, 2));
        Edge.bounds("what", () -> withShifts(2, 1), 0, 2, (x, v) -> x.ofShift(0, v));
        CoatsByLot x = withTwelve();
        x.shift(4095);
        x.shift(2048);
        x.lots(1, 9);
        Due.due("all TRAINS", x.ofShift(0, 0), 4095);
        Due.due("the last TRAIN", x.ofShift(1, 0), 2048);
        Due.due("no FINDS yet", x.ofShift(1, 2), 0);
        x.days(50);
        x.days(10);
        Due.due("as many FINDS as are kept", x.ofShift(1, 2), 60);
        x.days(1);
        Due.due("further ones aren't kept: it", x.ofShift(1, 2), 60);
        Due.due("FINDS of another one", x.ofShift(0, 2), 0);
    }

    private static void odds(CoatsByLot x, int train, int above, int below) {
        Due.due("above, of TRAIN " + train, x.odds(train, 0), above);
        Due.due("below, of TRAIN " + train, x.odds(train, 1), below);
    }

    private static void promise22() {
        Due.promise(22);
        Edge.bounds("train", () -> withShifts(3, 1), 0, 2, (x, v) -> x.odds(v, 0));
        Edge.bounds("train, when there are 12", () -> Edge.with(2, 1, 12), 0, 11, (x, v) -> x.odds(v, 1));
        Edge.bounds("part", () -> withShifts(3, 1), 0, 1, (x, v) -> x.odds(0, v));
        odds(Edge.with(2, 1, 1), 0, 0, 1);
        odds(Edge.withLots(2, 0, 0), 0, 0, 1);
        odds(Edge.withLots(2, 0, 9), 0, 0, 1);
        odds(Edge.withLots(2, 0, 9), 1, 1, 1);
        odds(Edge.withLots(2, 5, 9), 0, 5, 14);
        odds(Edge.withLots(2, 6, 9), 1, 3, 5);
        odds(Edge.withLots(8, 9, 9, 9, 9, 9, 9, 9, 9), 7, 1, 8);
        odds(Edge.withLots(1, 9, 9, 9, 9, 9, 9, 9, 9), 0, 1, 1);
        odds(Edge.withLots(7, 9, 9, 9, 9, 9, 9, 9, 8), 0, 17, 71);
    }

    /** All of 16 GROUPS of 999, of a KIND, on TRAIN 0. */
    private static CoatsByLot withAll(CoatsByLot x, int kind) {
        for (int i = 0; i < 16; i++) {
            x.group(100 * kind, 1, 999, 1);
        }
        return x;
    }

    private static void promise23() {
        Due.promise(23);
        Due.due("unpaid() without GROUPS", Edge.with(2, 1, 1).unpaid(), 0);
        Due.due("unpaid() of the most", withAll(Edge.with(2, 1, 1), 0).unpaid(), 16 * 999);
        Due.due("unpaid() when all pay", withAll(Edge.with(2, 1, 1), 1).unpaid(), 0);
        CoatsByLot x = Edge.with(2, 1, 1);
        x.group(0, 1, 1, 1);
        Due.due("unpaid() of one", x.unpaid(), 1);
    }

    private static void coin(String what, CoatsByLot x, long above, long below) {
        Due.due(what + ", above", x.coin(0), above);
        Due.due(what + ", below", x.coin(1), below);
    }

    private static void promise24() {
        Due.promise(24);
        Edge.bounds("part", CoatsByLot::new, 0, 1, (x, v) -> x.coin(v));
        coin("no GROUPS", Edge.withLots(2, 3, 4), 0, 1);
        CoatsByLot x = Edge.withLots(2, 0, 0);
        x.group(0, 1, 7, 1);
        x.group(101, 1, 5, 1);
        coin("ALL is 0", x, 15, 1);
        x.lots(1, 9);
        coin("ODDS are 0", x, 15, 1);
        x.lots(0, 9);
        coin("ODDS are 1 of 2", x, 15 + 210, 1);
        x.lots(0, 2);
        // 7 * 60 * 2 / 11
        coin("ODDS are 2 of 11", x, 15 * 11 + 840, 11);
        x.lots(1, 0);
        coin("ODDS are 1", x, 15 + 420, 1);
        x.price(1, 0);
        coin("FINE 0", x, 15, 1);
        CoatsByLot y = Edge.withLots(1, 1);
        y.price(0, 1);
        y.group(400, 1, 9, 9);
        coin("FARE 1 of SHORT ones, who weigh 0", y, 9, 1);
    }

    private static void promise24OfTheMost() {
        CoatsByLot x = withAll(Edge.with(2, 1, 2), 1);
        x.price(0, 99);
        coin("the most FARES", x, 99L * 999 * 16, 1);
        CoatsByLot y = withAll(Edge.withLots(2, 9, 9, 9, 9, 9, 9, 9, 8), 0);
        y.price(1, 999);
        // 36 of 71: a numerator far above an int's half
        coin("the most that isn't whole", y, 999L * 999 * 16 * 36, 71);
        coin("the most", mostFined(), 999L * 999 * 16, 1);
    }

    private static CoatsByLot mostFined() {
        CoatsByLot x = withAll(Edge.withLots(1, 9, 9, 9, 9, 9, 9, 9, 9), 0);
        x.price(1, 999);
        return x;
    }

    private static void promise25() {
        Due.promise(25);
        Edge.bounds("n", () -> withShifts(2, 2), 1, 5, (x, v) -> x.best(v, 0));
        Edge.beyond("i", () -> withShifts(2, 2), (x, v) -> x.best(1, v), Edge.MIN, -2);
        Edge.taken("i", () -> withShifts(2, 2), (x, v) -> x.best(1, v), -1, 0, 1);
        Edge.taken("i, when there are 8", () -> withShifts(2, 8), (x, v) -> x.best(5, v), -1, 7);
        Edge.Maker none = () -> Edge.with(2, 1, 2);
        Edge.beyond("BEYOND ahead of NONE: n", none, (x, v) -> x.best(v, 0), 0, 6);
        Edge.beyond("BEYOND ahead of NONE: i", none, (x, v) -> x.best(1, v), -2);
        Edge.beyond("BEYOND of n ahead of NONE of i: it", () -> withShifts(2, 2), (x, v) -> x.best(v, 2), 0, 6);
        Due.due("no SHIFTS, of i -1", none.make().best(1, -1), Due.NONE);
        Due.due("no SHIFTS, of i 0", none.make().best(5, 0), Due.NONE);
        Due.due("not so many", withShifts(2, 2).best(1, 2), Due.NONE);
        Due.due("not so many by far", withShifts(2, 2).best(1, Edge.MAX), Due.NONE);
        Due.due("not so many as 9", withShifts(2, 8).best(1, 8), Due.NONE);
        for (int n = 1; n <= 5; n++) {
            CoatsByLot x = withShifts(1, 1);
            Due.due("all of the only SHIFT", x.best(n, 0), n);
            Due.due("UNPAID of none", x.best(n, -1), 0);
            Due.due("THE PLAN stays", x.count(8), 0);
        }
    }

    private static void row(String what, CoatsByLot x, int n, int... due) {
        for (int i = 0; i < due.length; i++) {
            Due.due(what + ", LOTS of " + i + " by " + n, x.best(n, i), due[i]);
        }
    }

    private static void promise25OfLikeOnes() {
        CoatsByLot x = withShifts(3, 3);
        row("nobody", x, 5, 0, 0, 5);
        x.group(1, 1, 9, 1);
        row("most COIN", x, 5, 0, 5, 0);
        x.group(0, 1, 9, 1);
        row("like COIN, fewest of SHIFT 0", x, 5, 0, 5, 0);
        x.group(0, 1, 1, 1);
        row("more COIN by 1 rider", x, 5, 5, 0, 0);
        // who reads pays if looked at, so that fewer don't pay, though COIN is less
        x.group(302, 1, 1, 1);
        row("least UNPAID ahead of most COIN", x, 1, 0, 0, 1);
        row("least UNPAID with most COIN", x, 5, 4, 0, 1);
        Due.due("UNPAID then", x.best(1, -1), 19);
        Due.due("UNPAID now", x.unpaid(), 20);
        x.price(1, 0);
        row("FINE 0: COIN is like, too", x, 5, 0, 0, 5);
        Due.due("FINE 0: UNPAID", x.best(5, -1), 20);
        Due.text(x, 0, "p=2");
        row("READING that pay by 2 LOTS alone", x, 5, 0, 3, 2);
    }

    private static void promise25OfManyShifts() {
        CoatsByLot x = withShifts(8, 8);
        row("nobody", x, 5, 0, 0, 0, 0, 0, 0, 0, 5);
        for (int train = 0; train < 8; train++) {
            x.group(300 + train, 1, 10, 1);
        }
        row("READING everywhere", x, 5, 0, 0, 0, 1, 1, 1, 1, 1);
        Due.due("READING everywhere, UNPAID", x.best(5, -1), 30);
        row("READING everywhere", x, 1, 0, 0, 0, 0, 0, 0, 0, 1);
        x.group(300, 1, 1, 1);
        row("one more in SHIFT 0", x, 5, 1, 0, 0, 0, 1, 1, 1, 1);
        CoatsByLot y = withAll(withShifts(1, 8), 0);
        y.price(1, 999);
        row("the most riders, all SHIFTS alike", y, 5, 0, 0, 0, 0, 0, 0, 0, 5);
        Due.due("the most UNPAID", y.best(5, -1), 16 * 999);
        CoatsByLot z = withTwelve();
        z.shift(1);
        z.shift(4095);
        z.group(311, 1, 5, 1);
        row("a SHIFT of all TRAINS", z, 3, 0, 3);
        z.group(0, 1, 5, 1);
        row("one by which ODDS are 1, too", z, 3, 0, 3);
        Due.due("UNPAID of them", z.best(3, -1), 5);
    }

    /** LOTS of all SHIFTS with a TRAIN count together, for who reads them and for COIN. */
    private static void promise25OfTrainsOfTwoShifts() {
        CoatsByLot x = withTwelve();
        x.shift(1);
        x.shift(1 | 2);
        Due.text(x, 0, "p=n");
        x.group(300, 3, 10, 1);
        x.group(301, 1, 20, 1);
        row("3 LOTS of TRAIN 0, 1 of TRAIN 1", x, 3, 2, 1);
        Due.due("3 LOTS of TRAIN 0, 1 of TRAIN 1: UNPAID", x.best(3, -1), 0);
        row("4 LOTS, with which TRAIN 0 has 4", x, 4, 3, 1);
        Due.due("4 LOTS, with which TRAIN 0 has 4: UNPAID", x.best(4, -1), 10);
        CoatsByLot y = withTwelve();
        y.shift(1 | 2);
        y.shift(1);
        y.shift(2);
        Due.text(y, 0, "n=4&p>1|n=3&p>2");
        y.group(300, 3, 10, 1);
        y.group(301, 4, 20, 1);
        row("of several alike, fewest of SHIFT 0", y, 5, 0, 3, 2);
        row("TRAIN 0 by two SHIFTS", y, 4, 1, 2, 1);
        row("both by one SHIFT", y, 3, 2, 1, 0);
        for (int n = 3; n <= 5; n++) {
            Due.due("UNPAID of both by " + n, y.best(n, -1), 0);
        }
        y.group(0, 1, 1, 1);
        row("most COIN by TRAIN 0 of two SHIFTS", y, 5, 2, 3, 0);
    }

    private static void promise26() {
        Due.promise(26);
        Edge.bounds("n", () -> withShifts(2, 2), 1, 5, (x, v) -> x.plan(v));
        Edge.Maker none = () -> Edge.with(2, 1, 2);
        Edge.beyond("BEYOND ahead of NONE: n", none, (x, v) -> x.plan(v), Edge.MIN, 0, 6, Edge.MAX);
        for (int n = 1; n <= 5; n++) {
            Due.due("no SHIFTS", none.make().plan(n), Due.NONE);
            CoatsByLot x = withShifts(8, 8);
            for (int shift = 0; shift < 8; shift++) {
                x.lots(shift, 9);
            }
            x.group(301, 1, 7, 1);
            x.group(0, 1, 2, 1);
            x.plan(0);
            x.plan(6);
            Due.due("ALL behind refused ones", x.count(8), 72);
            Due.due("plan()", x.plan(n), 2);
            Due.due("ALL then", x.count(8), n);
            Due.due("LOTS of SHIFT 1", x.ofShift(1, 1), 1);
            Due.due("LOTS of SHIFT 0", x.ofShift(0, 1), n - 1);
            Due.due("LOTS of SHIFT 7", x.ofShift(7, 1), 0);
            Due.due("unpaid() then", x.unpaid(), 2);
        }
    }
}
