/** Boundary cases of promises 30 to 35: what would be. */
public final class WouldBeEdgesTest {
    private WouldBeEdgesTest() {
    }

    public static void main(String[] args) {
        promise30();
        promise30OfMinutes();
        promise30OfRiders();
        promise31();
        promise31OfFines();
        promise32();
        promise32OfStops();
        promise33();
        promise34();
        promise34OfDays();
        promise35();
        promise35OfLines();
        Due.end();
    }

    private static void promise30() {
        Due.promise(30);
        Edge.Maker three = () -> Edge.with(2, 1, 3);
        Edge.bounds("train", three, 0, 2, (x, v) -> x.telling(v, 0, 600, 0));
        Edge.bounds("train, when there are 12", () -> Edge.with(2, 1, 12), 0, 11, (x, v) -> x.telling(v, 0, 0, 1));
        Edge.bounds("l", three, 0, 600, (x, v) -> x.telling(0, v, 600, 0));
        Edge.bounds("h", three, 0, 600, (x, v) -> x.telling(0, 0, v, 0));
        Edge.bounds("h, of l 300", three, 300, 600, (x, v) -> x.telling(0, 300, v, 0));
        Edge.bounds("l, of h 300", three, 0, 300, (x, v) -> x.telling(0, v, 300, 0));
        Edge.bounds("l and h alike", three, 0, 600, (x, v) -> x.telling(0, v, v, 0));
        Edge.bounds("what", three, 0, 1, (x, v) -> x.telling(0, 0, 600, v));
    }

    private static void promise30OfMinutes() {
        CoatsByLot x = Edge.with(2, 2, 0);
        x.train(0, 300, 0);
        x.train(0, 300, 1);
        x.train(0, 299, 0);
        x.train(0, 301, 1);
        x.train(0, 900, 0);
        x.train(0, 901, 0);
        x.train(1, 300, 0);
        x.train(1, 400, 0);
        Due.due("of 0 to 0, one of like START", x.telling(0, 0, 0, 0), 2);
        Due.due("of 0 to 0, the other way", x.telling(1, 0, 0, 0), 1);
        Due.due("of 1 to 1", x.telling(0, 1, 1, 0), 8);
        Due.due("of 2 to 599", x.telling(0, 2, 599, 0), 0);
        Due.due("of 600 to 600", x.telling(0, 600, 600, 0), 16);
        Due.due("of 1 to 600", x.telling(0, 1, 600, 0), 8 | 16);
        Due.due("of 0 to 600", x.telling(0, 0, 600, 0), 2 | 8 | 16);
        Due.due("of one that is earlier", x.telling(2, 0, 600, 0), 1 | 2 | 8);
        Due.due("of the last one", x.telling(5, 0, 600, 0), 0);
        Due.due("of one 1 ahead of the last one", x.telling(4, 0, 600, 0), 32);
        Due.due("of another LINE", x.telling(6, 0, 600, 0), 128);
        Due.due("of another LINE, too late", x.telling(6, 0, 99, 0), 0);
        CoatsByLot y = Edge.with(2, 1, 0);
        for (int i = 0; i < 12; i++) {
            y.train(0, 7, 0);
        }
        Due.due("of all twelve, but the first", y.telling(0, 0, 0, 0), 4095 - 1);
        Due.due("of all twelve, but the last", y.telling(11, 0, 0, 0), 4095 - 2048);
    }

    private static void promise30OfRiders() {
        CoatsByLot x = Edge.with(2, 1, 2);
        Due.due("UNPAID without GROUPS", x.telling(0, 0, 600, 1), 0);
        for (int kind = 0; kind < 8; kind++) {
            x.group(100 * kind + 1, 1, 1 << kind, 1);
        }
        x.group(300, 1, 256, 1);
        int unpaid = 1 + 4 + 8 + 16 + 32 + 128 + 256;
        Due.due("UNPAID now", x.unpaid(), unpaid);
        Due.due("UNPAID, READING on the next TRAIN alone pay", x.telling(0, 0, 600, 1), unpaid - 8);
        Due.due("UNPAID, of 100 to 100", x.telling(0, 100, 100, 1), unpaid - 8);
        Due.due("UNPAID, of 0 to 99", x.telling(0, 0, 99, 1), unpaid);
        Due.due("UNPAID, of 101 to 600", x.telling(0, 101, 600, 1), unpaid);
        Due.due("UNPAID, of the last TRAIN", x.telling(1, 0, 600, 1), unpaid);
        Due.due("UNPAID behind all that", x.unpaid(), unpaid);
        x.shift(2);
        x.lots(0, 1);
        Due.due("UNPAID, of who pays already", x.telling(0, 0, 600, 1), unpaid - 8);
    }

    private static void promise31() {
        Due.promise(31);
        Edge.bounds("x", CoatsByLot::new, 0, 99999, (x, v) -> x.turn(v));
        CoatsByLot x = Edge.with(2, 1, 1);
        for (int i = 0; i < 16; i++) {
            x.group(0, 1, 999, 1);
        }
        Due.due("the most who never pay", x.turn(16 * 999), 0);
        Due.due("one fewer", x.turn(16 * 999 - 1), Due.NONE);
        Due.due("none", x.turn(0), Due.NONE);
        Due.due("far more", x.turn(99999), 0);
        Due.due("BEYOND ahead of NONE: it", x.turn(-1), Due.BEYOND);
        Due.due("BEYOND ahead of NONE, far below: it", x.turn(Edge.MIN), Due.BEYOND);
        CoatsByLot y = Edge.with(2, 1, 1);
        y.group(100, 1, 999, 1);
        Due.due("all pay", y.turn(0), 0);
    }

    private static void promise31OfFines() {
        CoatsByLot x = Edge.with(2, 1, 1);
        x.price(0, 99);
        x.group(200, 1, 9, 19);
        Due.due("FARE 99 by 1 of 9", x.turn(8), 891);
        Due.due("as many as don't pay", x.turn(9), 0);
        x.price(1, 999);
        Due.due("FINE, as it is, doesn't matter", x.turn(8), 891);
        Due.due("FINE stays", x.price(1, 0), 999);
        Due.due("FINE 0 doesn't, either", x.turn(8), 891);
        x.believe(0, 9);
        Due.due("FARE 99 by 0 of 9", x.turn(8), Due.NONE);
        Due.text(x, 0, "g=0");
        Due.due("FINE 0 alone", x.turn(8), 0);
        Due.text(x, 0, "g=1");
        Due.due("FINE 1 alone", x.turn(8), 1);
        Due.text(x, 0, "g=999");
        Due.due("FINE 999 alone", x.turn(8), 999);
        Due.text(x, 0, "g=1000");
        Due.due("FINE 1000 alone", x.turn(8), Due.NONE);
        Due.text(x, 0, "(g=5)+(g>7)");
        Due.due("the least of several", x.turn(8), 5);
        CoatsByLot y = Edge.withLots(2, 1, 8);
        y.group(300, 1, 5, 99);
        y.group(401, 3, 5, 19);
        y.group(401, 4, 5, 19);
        y.group(500, 1, 7, 1);
        // READING pay from 27 on (1 of 9), SHORT of 3 STOPS from 9 on, of 4 from 27 on
        Due.due("SHORT pay", y.turn(17), 9);
        Due.due("READING pay, too", y.turn(7), 27);
        Due.due("CAUGHT don't", y.turn(6), Due.NONE);
        y.lots(0, 0);
        Due.due("READING without ODDS", y.turn(7), Due.NONE);
        Due.due("THE PLAN stays", y.count(8), 8);
    }

    private static void promise32() {
        Due.promise(32);
        Edge.Maker three = () -> Edge.with(3, 1, 1);
        Edge.bounds("station", three, 0, 2, (x, v) -> x.gate(v, 0));
        Edge.bounds("station, when there are 8", () -> Due.withStations(8), 0, 7, (x, v) -> x.gate(v, 0));
        Edge.bounds("cost", three, 0, 99999, (x, v) -> x.gate(0, v));
        CoatsByLot x = three.make();
        Due.due("nobody, of cost 0", x.gate(0, 0), 0);
        Due.due("nobody, of the most cost", x.gate(0, 99999), -99999);
        for (int i = 0; i < 16; i++) {
            x.group(0, 1, 999, 1);
        }
        x.price(0, 99);
        Due.due("the most", x.gate(0, 0), 99 * 16 * 999);
        Due.due("the most, less the most cost", x.gate(0, 99999), 99 * 16 * 999 - 99999);
        Due.due("where nobody gets on", x.gate(1, 5), -5);
        CoatsByLot y = three.make();
        y.group(100, 1, 999, 1);
        Due.due("who pays doesn't count", y.gate(0, 0), 0);
        y.price(0, 1);
        y.group(0, 1, 1, 1);
        Due.due("one by FARE 1, less cost 2", y.gate(0, 2), -1);
        CoatsByLot z = three.make();
        z.price(0, 50);
        z.group(400, 1, 2, 9);
        Due.due("FARE of SHORT ones, too, isn't by 2", z.gate(0, 0), 100);
    }

    private static void promise32OfStops() {
        CoatsByLot x = Edge.with(8, 1, 1);
        x.train(0, 5, 1);
        for (int station = 2; station < 5; station++) {
            x.extend(0, station, 1);
        }
        x.price(0, 1);
        for (int from = 0; from < 5; from++) {
            x.group(0, 10 * from + 5, 1 << from, 1);
            x.group(1, 10 * from + 5, 32 << from, 1);
        }
        for (int station = 0; station < 5; station++) {
            Due.due("at STATION " + station, x.gate(station, 0), (1 << station) + (32 << 4 - station));
        }
        Due.due("at a STATION of no LINE", x.gate(5, 0), 0);
        CoatsByLot y = Edge.with(3, 1, 1);
        y.price(0, 1);
        y.group(0, 12, 1, 1);
        y.group(0, 23, 2, 1);
        Due.due("the last STOP of 2", y.gate(1, 0), 1);
        for (int station = 0; station < 3; station++) {
            Due.due("the third STOP of 2, at " + station, y.gate(station, 0), station == 1 ? 1 : 0);
        }
        y.extend(0, 2, 1);
        Due.due("the third STOP of 3", y.gate(2, 0), 2);
    }

    private static void wrong(String what, CoatsByLot x, int e, long above, long below) {
        Due.due(what + ", above", x.wrong(e, 0), above);
        Due.due(what + ", below", x.wrong(e, 1), below);
    }

    private static void promise33() {
        Due.promise(33);
        Edge.bounds("e", CoatsByLot::new, 0, 1000, (x, v) -> x.wrong(v, 0));
        Edge.bounds("part", CoatsByLot::new, 0, 1, (x, v) -> x.wrong(5, v));
        CoatsByLot x = Edge.withLots(2, 0, 0);
        wrong("nobody", x, 1000, 0, 1);
        x.group(100, 1, 1, 1);
        wrong("ALL is 0", x, 1000, 0, 1);
        x.lots(1, 9);
        wrong("ODDS are 0", x, 1000, 0, 1);
        x.lots(0, 9);
        wrong("ODDS are 1 of 2, e 1000", x, 1000, 1, 2);
        wrong("ODDS are 1 of 2, e 1", x, 1, 1, 2000);
        wrong("ODDS are 1 of 2, e 999", x, 999, 999, 2000);
        wrong("ODDS are 1 of 2, e 0", x, 0, 0, 1);
        x.group(0, 1, 999, 1);
        wrong("who doesn't pay doesn't count", x, 1000, 1, 2);
        CoatsByLot y = Edge.withLots(2, 9, 9, 9, 9, 9, 9, 9, 8);
        for (int i = 0; i < 16; i++) {
            y.group(100, 1, 999, 1);
        }
        // 15984 * 36 / 71
        wrong("the most that isn't whole", y, 1000, 16L * 999 * 36, 71);
        wrong("the most that isn't whole, by 999", y, 999, 16L * 999 * 36 * 999 / 8, 71 * 125);
        for (int shift = 1; shift < 8; shift += 2) {
            y.lots(shift, 0);
        }
        wrong("the most", y, 1000, 16L * 999, 1);
    }

    private static void promise34() {
        Due.promise(34);
        Edge.Maker sure = () -> Edge.withLots(1, 1);
        Edge.bounds("train", () -> Edge.with(2, 1, 3), 0, 2, (x, v) -> x.seen(v, 0));
        Edge.bounds("train, when there are 12", () -> Edge.with(2, 1, 12), 0, 11, (x, v) -> x.seen(v, 0));
        Edge.bounds("x", sure, 0, 100, (x, v) -> x.seen(0, v));
        Edge.beyond("BEYOND ahead of NONE: x", () -> Edge.with(2, 1, 1), (x, v) -> x.seen(0, v), -1, 101);
        Edge.beyond("BEYOND ahead of NONE: train", () -> Edge.with(2, 1, 1), (x, v) -> x.seen(v, 50), -1, 1);
        CoatsByLot x = Edge.withLots(2, 0, 0);
        Due.due("ALL is 0, for 0", x.seen(0, 0), 1);
        Due.due("ALL is 0, for 1", x.seen(0, 1), Due.NONE);
        x.lots(1, 1);
        Due.due("ODDS are 0, for 0", x.seen(0, 0), 1);
        Due.due("ODDS are 0, for 1", x.seen(0, 1), Due.NONE);
        Due.due("ODDS are 1, for 0", x.seen(1, 0), 1);
        Due.due("ODDS are 1, for 100", x.seen(1, 100), 1);
        x.lots(0, 1);
        Due.due("ODDS are 1 of 2, for 100", x.seen(0, 100), Due.NONE);
        // 1 - 1 / 256 is 0.996..
        Due.due("ODDS are 1 of 2, for 99", x.seen(0, 99), 7);
    }

    private static void promise34OfDays() {
        CoatsByLot half = Edge.withLots(2, 1, 1);
        Due.due("just 50", half.seen(0, 50), 1);
        Due.due("just above 50", half.seen(0, 51), 2);
        Due.due("just 75", half.seen(0, 75), 2);
        Due.due("just above 75", half.seen(0, 76), 3);
        CoatsByLot fifth = Edge.withLots(2, 1, 4);
        Due.due("just 20", fifth.seen(0, 20), 1);
        Due.due("just 36", fifth.seen(0, 36), 2);
        Due.due("just above 36", fifth.seen(0, 37), 3);
        // 1 - 0.8 ** 7 is 0.7902.., 1 - 0.8 ** 8 is 0.8322..
        Due.due("what seven DAYS still do", fifth.seen(0, 79), 7);
        Due.due("what eight DAYS must do", fifth.seen(0, 80), 8);
        Due.due("what eight DAYS still do", fifth.seen(0, 83), 8);
        Due.due("what nine DAYS would do", fifth.seen(0, 84), Due.NONE);
        CoatsByLot rare = Edge.withLots(2, 1, 9, 0, 9, 0, 9, 0, 9);
        // 1 - (36 / 37) ** 8 is 0.1968..
        Due.due("1 of 37, for 19", rare.seen(0, 19), 8);
        Due.due("1 of 37, for 20", rare.seen(0, 20), Due.NONE);
        CoatsByLot most = Edge.withLots(2, 9, 9, 9, 9, 9, 9, 9, 9);
        Due.due("36 of 72, for 99", most.seen(0, 99), 7);
        Due.due("36 of 72, for 100", most.seen(0, 100), Due.NONE);
        CoatsByLot all = Edge.withLots(1, 9, 9, 9, 9, 9, 9, 9, 9);
        Due.due("72 of 72, for 100", all.seen(0, 100), 1);
        CoatsByLot nearly = Edge.withLots(8, 1, 9, 9, 9, 9, 9, 9, 9);
        // 9 of 64: 1 - (55 / 64) ** 8 is 0.7025..
        Due.due("9 of 64, for 70", nearly.seen(1, 70), 8);
        Due.due("9 of 64, for 71", nearly.seen(1, 71), Due.NONE);
    }

    private static void promise35() {
        Due.promise(35);
        Edge.Maker rider = () -> {
            CoatsByLot x = Edge.with(2, 1, 1);
            x.group(0, 1, 1, 1);
            return x;
        };
        Edge.bounds("what", rider, 0, 1, (x, v) -> x.fair(v));
        Edge.beyond("BEYOND ahead of NONE: what", () -> Edge.with(2, 1, 1), (x, v) -> x.fair(v), -1, 2);
        for (int what = 0; what < 2; what++) {
            Due.due("no LINES", new CoatsByLot().fair(what), Due.NONE);
            Due.due("no TRAINS", Edge.with(2, 4, 0).fair(what), Due.NONE);
            Due.due("no riders", Edge.with(2, 4, 12).fair(what), Due.NONE);
        }
        Due.due("all of one don't pay", rider.make().fair(1), 100);
        CoatsByLot x = Edge.with(2, 1, 1);
        x.group(100, 1, 999, 1);
        Due.due("all pay: the LINE", x.fair(0), 0);
        Due.due("all pay: of 100", x.fair(1), 0);
        x.group(0, 1, 1, 1);
        Due.due("1 of 1000, cut", x.fair(1), 0);
        for (int i = 0; i < 9; i++) {
            x.group(0, 1, 1, 1);
        }
        Due.due("10 of 1009, cut", x.fair(1), 0);
        x.group(0, 1, 1, 1);
        Due.due("11 of 1010", x.fair(1), 1);
    }

    /** Four LINES with a TRAIN each. */
    private static CoatsByLot withLines() {
        CoatsByLot x = Edge.with(2, 4, 0);
        for (int line = 0; line < 4; line++) {
            x.train(line, 5, 0);
        }
        return x;
    }

    private static void promise35OfLines() {
        CoatsByLot x = withLines();
        x.group(103, 1, 5, 1);
        Due.due("riders on the last LINE alone", x.fair(0), 3);
        Due.due("who all pay", x.fair(1), 0);
        x.group(102, 1, 5, 1);
        Due.due("of two where all pay, the least", x.fair(0), 2);
        x.group(3, 1, 1, 1);
        Due.due("1 of 6", x.fair(0), 3);
        Due.due("1 of 6, cut", x.fair(1), 16);
        x.group(2, 1, 1, 1);
        Due.due("1 of 6 twice, the least", x.fair(0), 2);
        // 16.1.. of 100 is 16, cut, as is 16.6..
        x.group(101, 1, 83, 1);
        x.group(1, 1, 16, 1);
        Due.due("16 of 99, cut like 1 of 6", x.fair(0), 1);
        x.group(1, 1, 1, 1);
        Due.due("17 of 100", x.fair(1), 17);
        x.group(0, 1, 1, 1);
        Due.due("all of one", x.fair(0), 0);
        CoatsByLot y = withLines();
        for (int i = 0; i < 16; i++) {
            y.group(i % 4, 1, 999, 1);
        }
        Due.due("all of all: the LINE", y.fair(0), 0);
        Due.due("all of all: of 100", y.fair(1), 100);
    }
}
