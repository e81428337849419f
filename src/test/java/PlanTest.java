/** Promises 18 to 26: SHIFTS and THE PLAN. */
public final class PlanTest {
    private PlanTest() {
    }

    public static void main(String[] args) {
        promise18();
        ruleNames();
        promise19();
        promise20();
        promise21();
        promise22();
        promise23();
        promise24();
        promise25();
        bestOfSeveral();
        promise26();
        Due.end();
    }

    private static void promise18() {
        Due.promise(18);
        CoatsByLot x = new CoatsByLot();
        Due.due("walked without trains", x.walked(1), Due.BEYOND);
        x = Due.withTrains();
        Due.due("walked 0", x.walked(0), Due.BEYOND);
        Due.due("walked 32", x.walked(32), Due.BEYOND);
        Due.due("walked 33", x.walked(33), Due.BEYOND);
        Due.due("walked -1", x.walked(-1), Due.BEYOND);
        Due.due("one train", x.walked(16), 0);
        Due.due("to where it ended", x.walked(3), 0);
        Due.due("0 MINUTES to itself, at once", x.walked(2 + 8), 0);
        Due.due("the next is gone", x.walked(4 + 8), 1);
        Due.due("no WALK from 2 to 0", x.walked(1 + 8), 1);
        x.walk(0, 2, 20);
        Due.due("WALK of 20 in 20", x.walked(1 + 8), 0);
        x.walk(0, 2, 21);
        Due.due("WALK of 21 in 20", x.walked(1 + 8), 1);
        x.walk(2, 0, -1);
        Due.due("WALK taken away", x.walked(1 + 8), 1);
        Due.due("in order of START: 0, 1, 3", x.walked(11), 0);
        x.train(0, 100, 0);
        Due.due("two at one START", x.walked(32 + 1), 1);
        Due.text(x, 1, "0");
        Due.due("the SHIFT RULE is 0", x.walked(3), 2);
        Due.due("no WALK is told ahead of it", x.walked(32 + 1), 1);
        Due.text(x, 1, "0-5");
        Due.due("what isn't 0 will do", x.walked(3), 0);
    }

    private static void rule(CoatsByLot x, String text, int set, int due) {
        Due.text(x, 1, text);
        Due.due("walked(" + set + ") by " + text, x.walked(set), due);
    }

    private static void ruleNames() {
        CoatsByLot x = Due.withStations(2);
        x.line(0, 1, 5);
        // started out of order, so that numbers don't tell it: 2 (END 15), 1 back (END 29), 0 (END 45)
        x.train(0, 40, 0);
        x.train(0, 24, 1);
        x.train(0, 10, 0);
        rule(x, "n=3&l=35&g=11&b=10", 7, 0);
        rule(x, "n=2&l=19&g=9&b=10", 6, 0);
        rule(x, "n=2&l=21&g=11&b=24", 3, 0);
        rule(x, "n=1&l=5&g=0&b=40", 1, 0);
        rule(x, "g", 1, 2);
        Due.due("no WALK back", x.walked(5), 1);
        x.walk(0, 1, 25);
        rule(x, "g=25&l=35", 5, 0);
    }

    private static void promise19() {
        Due.promise(19);
        CoatsByLot x = Due.withTrains();
        Due.due("shift 0 bits", x.shift(0), Due.BEYOND);
        Due.due("shift 32", x.shift(32), Due.BEYOND);
        Due.due("shift -1", x.shift(-1), Due.BEYOND);
        Due.due("shift that isn't walked", x.shift(9), Due.STATE);
        Due.due("shift", x.shift(3), 0);
        Due.due("the same once more", x.shift(3), 1);
        Due.text(x, 1, "n>1");
        Due.due("shift against the rule", x.shift(1), Due.STATE);
        for (int i = 2; i < 8; i++) {
            Due.due("shift " + i, x.shift(3), i);
        }
        Due.due("shift 8", x.shift(3), Due.FULL);
        Due.due("STATE ahead of FULL", x.shift(1), Due.STATE);
        Due.due("BEYOND ahead of FULL", x.shift(0), Due.BEYOND);
        Due.text(x, 1, "0");
        x.extend(0, 1, 30);
        Due.due("never looked at later", x.ofShift(0, 0), 3);
        Due.due("and takes LOTS", x.lots(0, 2), 0);
    }

    private static void promise20() {
        Due.promise(20);
        CoatsByLot x = Due.withTrains();
        Due.due("lots without shifts", x.lots(0, 1), Due.BEYOND);
        x.shift(1);
        Due.due("lots at first", x.lots(0, 9), 0);
        Due.due("lots 10", x.lots(0, 10), Due.BEYOND);
        Due.due("lots -1", x.lots(0, -1), Due.BEYOND);
        Due.due("lots of no shift", x.lots(1, 1), Due.BEYOND);
        Due.due("lots of -1", x.lots(-1, 1), Due.BEYOND);
        Due.due("lots as they were", x.lots(0, 0), 9);
        Due.due("ALL", x.count(8), 0);
    }

    private static void promise21() {
        Due.promise(21);
        CoatsByLot x = Due.withTrains();
        x.shift(1);
        x.shift(2);
        x.lots(1, 5);
        x.days(3);
        Due.due("TRAINS of 0", x.ofShift(0, 0), 1);
        Due.due("TRAINS of 1", x.ofShift(1, 0), 2);
        Due.due("LOTS of 1", x.ofShift(1, 1), 5);
        Due.due("FINDS of 0", x.ofShift(0, 2), 0);
        Due.due("FINDS of 1", x.ofShift(1, 2), 3);
        Due.due("ofShift what 3", x.ofShift(0, 3), Due.BEYOND);
        Due.due("ofShift what -1", x.ofShift(0, -1), Due.BEYOND);
        Due.due("ofShift of none", x.ofShift(2, 0), Due.BEYOND);
        Due.due("ofShift of -1", x.ofShift(-1, 0), Due.BEYOND);
    }

    private static void promise22() {
        Due.promise(22);
        CoatsByLot x = Due.withTrains();
        Due.due("odds without LOTS, above", x.odds(0, 0), 0);
        Due.due("odds without LOTS, below", x.odds(0, 1), 1);
        x.shift(1);
        x.shift(3);
        x.shift(4);
        x.lots(0, 2);
        x.lots(1, 2);
        x.lots(2, 2);
        Due.due("4 of 6, above", x.odds(0, 0), 2);
        Due.due("4 of 6, below", x.odds(0, 1), 3);
        Due.due("2 of 6, above", x.odds(1, 0), 1);
        Due.due("2 of 6, below", x.odds(1, 1), 3);
        Due.due("0 of 6, above", x.odds(4, 0), 0);
        Due.due("0 of 6, below", x.odds(4, 1), 1);
        Due.due("odds of no train", x.odds(5, 0), Due.BEYOND);
        Due.due("odds of -1", x.odds(-1, 0), Due.BEYOND);
        Due.due("odds part 2", x.odds(0, 2), Due.BEYOND);
        Due.due("odds part -1", x.odds(0, -1), Due.BEYOND);
    }

    private static void promise23() {
        Due.promise(23);
        CoatsByLot x = Due.withTrains();
        Due.due("no riders", x.unpaid(), 0);
        x.group(0, 1, 999, 1);
        x.group(100, 1, 50, 1);
        x.group(201, 1, 7, 9);
        x.group(604, 1, 3, 9);
        Due.due("unpaid", x.unpaid(), 999 + 7 + 3);
        x.believe(2, 99);
        Due.due("unpaid after a belief", x.unpaid(), 999 + 3);
    }

    private static void promise24() {
        Due.promise(24);
        CoatsByLot x = Due.withTrains();
        Due.due("no riders, above", x.coin(0), 0);
        Due.due("no riders, below", x.coin(1), 1);
        x.price(0, 5);
        x.price(1, 7);
        x.group(100, 1, 10, 1);
        x.group(401, 1, 4, 99);
        x.group(0, 1, 3, 1);
        Due.due("without LOTS, above", x.coin(0), 70);
        Due.due("without LOTS, below", x.coin(1), 1);
        x.shift(1);
        x.shift(2);
        x.lots(0, 2);
        x.lots(1, 4);
        // 5 * 14 + 7 * 3 * 2 / 6: FARE of SHORT ones, too
        Due.due("with LOTS, above", x.coin(0), 77);
        Due.due("with LOTS, below", x.coin(1), 1);
        x.lots(1, 6);
        // 70 + 21 * 2 / 8
        Due.due("a fraction, above", x.coin(0), 301);
        Due.due("a fraction, below", x.coin(1), 4);
        Due.due("coin part 2", x.coin(2), Due.BEYOND);
        Due.due("coin part -1", x.coin(-1), Due.BEYOND);
        Due.due("told", x.told(1), 2);
        CoatsByLot y = Due.withStations(2);
        y.line(0, 1, 1);
        y.train(0, 0, 0);
        for (int i = 0; i < 16; i++) {
            y.group(0, 1, 999, 1);
        }
        for (int i = 0; i < 8; i++) {
            y.shift(1);
            y.lots(i, 9);
        }
        y.price(1, 999);
        Due.due("the most that can come in", y.coin(0), 16L * 999 * 999);
    }

    private static CoatsByLot withReaders() {
        CoatsByLot x = Due.withTrains();
        x.shift(1);
        x.shift(2);
        x.shift(4);
        x.shift(16);
        return x;
    }

    private static void promise25() {
        Due.promise(25);
        CoatsByLot x = Due.withTrains();
        Due.due("no SHIFTS", x.best(1, -1), Due.NONE);
        Due.due("BEYOND ahead of NONE: n", x.best(6, 0), Due.BEYOND);
        Due.due("BEYOND ahead of NONE: i", x.best(1, -2), Due.BEYOND);
        x = withReaders();
        Due.due("n 0", x.best(0, 0), Due.BEYOND);
        Due.due("i 4", x.best(5, 4), Due.NONE);
        x.price(0, 5);
        x.price(1, 20);
        // these pay if 20 * p is 5 * q or more: with a quarter of all LOTS
        x.group(300, 1, 10, 1);
        x.group(301, 1, 20, 1);
        x.group(302, 1, 30, 1);
        x.group(304, 1, 40, 1);
        Due.due("one LOT: the most readers", x.best(1, -1), 60);
        Due.due("one LOT, of 3", x.best(1, 3), 1);
        Due.due("two LOTS", x.best(2, -1), 30);
        Due.due("two LOTS, of 2", x.best(2, 2), 1);
        Due.due("two LOTS, of 3", x.best(2, 3), 1);
        Due.due("four LOTS", x.best(4, -1), 0);
        for (int i = 0; i < 4; i++) {
            Due.due("four LOTS, of " + i, x.best(4, i), 1);
        }
        // a fifth is too little, so two each are needed
        Due.due("five LOTS", x.best(5, -1), 30);
        Due.due("five LOTS, of 0: those left bring COIN to 1", x.best(5, 0), 0);
        Due.due("five LOTS, of 1", x.best(5, 1), 1);
        Due.due("five LOTS, of 2", x.best(5, 2), 2);
        Due.due("five LOTS, of 3", x.best(5, 3), 2);
        Due.due("THE PLAN stays", x.count(8), 0);
    }

    private static void bestOfSeveral() {
        CoatsByLot x = withReaders();
        Due.due("nobody: the last SHIFT", x.best(5, 3), 5);
        Due.due("nobody: UNPAID", x.best(5, -1), 0);
        x.group(1, 1, 10, 1);
        Due.due("most COIN", x.best(3, 1), 3);
        x.group(2, 1, 10, 1);
        Due.due("like COIN: fewest of 0, 1", x.best(3, 1), 0);
        Due.due("like COIN: all of 2", x.best(3, 2), 3);
        x.group(0, 1, 11, 1);
        Due.due("more COIN", x.best(3, 0), 3);
        x.price(1, 0);
        Due.due("no FINE", x.best(3, 3), 3);
        CoatsByLot y = Due.withStations(2);
        y.line(0, 1, 1);
        for (int i = 0; i < 8; i++) {
            y.train(0, i, 0);
            y.shift(1 << i);
            y.group(300 + i, 1, 1 + i, 1);
        }
        // 3 * q is at most 60 * p with any LOT at all
        Due.due("eight SHIFTS", y.best(5, -1), 1 + 2 + 3);
        Due.due("eight SHIFTS, of 2", y.best(5, 2), 0);
        Due.due("eight SHIFTS, of 3", y.best(5, 3), 1);
        Due.due("eight SHIFTS, of 7", y.best(5, 7), 1);
    }

    private static void promise26() {
        Due.promise(26);
        CoatsByLot x = Due.withTrains();
        Due.due("no SHIFTS", x.plan(1), Due.NONE);
        Due.due("n 0", x.plan(0), Due.BEYOND);
        Due.due("n 6", x.plan(6), Due.BEYOND);
        x = withReaders();
        x.group(301, 1, 10, 1);
        x.group(302, 1, 10, 1);
        x.group(0, 1, 5, 1);
        x.lots(0, 9);
        Due.due("unpaid ahead", x.unpaid(), 25);
        Due.due("plan", x.plan(5), 5);
        Due.due("unpaid then", x.unpaid(), 5);
        Due.due("ALL", x.count(8), 5);
        Due.due("LOTS of 0, where one doesn't pay", x.ofShift(0, 1), 3);
        Due.due("LOTS of 1", x.ofShift(1, 1), 1);
        Due.due("LOTS of 2", x.ofShift(2, 1), 1);
        Due.due("LOTS of 3", x.ofShift(3, 1), 0);
    }
}
