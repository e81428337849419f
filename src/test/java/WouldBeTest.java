/** Promises 30 to 35: what would be. */
public final class WouldBeTest {
    private WouldBeTest() {
    }

    public static void main(String[] args) {
        promise30();
        promise31();
        promise32();
        promise33();
        promise34();
        promise35();
        Due.end();
    }

    private static void promise30() {
        Due.promise(30);
        CoatsByLot x = Due.withTrains();
        x.train(0, 100, 1);
        x.group(300, 1, 1, 1);
        x.group(301, 1, 2, 1);
        x.group(302, 1, 4, 1);
        x.group(303, 1, 8, 1);
        x.group(305, 1, 16, 1);
        x.group(1, 1, 32, 1);
        x.group(201, 1, 64, 9);
        Due.due("20 to 37", x.telling(0, 20, 37, 0), 2 + 8);
        Due.due("20 to 36", x.telling(0, 20, 36, 0), 2);
        Due.due("21 to 37", x.telling(0, 21, 37, 0), 8);
        Due.due("0 to 600, but not itself", x.telling(0, 0, 600, 0), 2 + 8 + 32);
        Due.due("0 to 0", x.telling(5, 0, 0, 0), 1);
        Due.due("none ahead", x.telling(4, 0, 600, 0), 0);
        Due.due("another LINE", x.telling(2, 0, 600, 0), 0);
        Due.due("UNPAID then", x.telling(0, 20, 37, 1), 127 - 2 - 8);
        Due.due("UNPAID of all", x.telling(0, 0, 600, 1), 127 - 2 - 8 - 16);
        Due.due("UNPAID of none", x.telling(4, 0, 600, 1), 127);
        Due.due("all as ahead", x.unpaid(), 127);
        Due.due("no train", x.telling(6, 0, 1, 0), Due.BEYOND);
        Due.due("train -1", x.telling(-1, 0, 1, 0), Due.BEYOND);
        Due.due("l -1", x.telling(0, -1, 1, 0), Due.BEYOND);
        Due.due("h 601", x.telling(0, 0, 601, 0), Due.BEYOND);
        Due.due("l 601", x.telling(0, 601, 601, 0), Due.BEYOND);
        Due.due("l above h", x.telling(0, 5, 4, 0), Due.BEYOND);
        Due.due("what 2", x.telling(0, 0, 1, 2), Due.BEYOND);
        Due.due("what -1", x.telling(0, 0, 1, -1), Due.BEYOND);
    }

    private static void promise31() {
        Due.promise(31);
        CoatsByLot x = Due.withTrains();
        Due.due("nobody", x.turn(0), 0);
        Due.due("x -1", x.turn(-1), Due.BEYOND);
        Due.due("x 100000", x.turn(100000), Due.BEYOND);
        x.image();
        x.group(0, 1, 3, 1);
        Due.due("one who never pays", x.turn(2), Due.NONE);
        Due.due("as many as never pay", x.turn(3), 0);
        x.restore();
        x.price(0, 7);
        x.group(200, 1, 10, 19);
        x.group(200, 1, 20, 12);
        x.group(400, 1, 40, 19);
        x.group(0, 1, 5, 1);
        // WEIGHING 1 of 9 pays from 63 on, 1 of 2 from 14 on, SHORT 1 of 9 from 27 on
        Due.due("all", x.turn(75), 0);
        Due.due("all but one", x.turn(74), 14);
        Due.due("up to 55", x.turn(55), 14);
        Due.due("up to 54", x.turn(54), 27);
        Due.due("up to 15", x.turn(15), 27);
        Due.due("up to 14", x.turn(14), 63);
        Due.due("up to 5", x.turn(5), 63);
        Due.due("up to 4", x.turn(4), Due.NONE);
        Due.due("FINE as ahead", x.price(1, 5), 60);
        x.group(300, 1, 100, 1);
        Due.due("READING without LOTS", x.turn(5), Due.NONE);
        x.shift(1);
        x.shift(2);
        x.lots(0, 1);
        x.lots(1, 9);
        Due.due("READING 1 of 10", x.turn(5), 70);
        Due.text(x, 0, "g=999");
        Due.due("the greatest FINE", x.turn(5), 999);
        Due.text(x, 0, "g>999");
        Due.due("no FINE", x.turn(5), Due.NONE);
        Due.due("no FINE is needed", x.turn(175), 0);
        Due.text(x, 0, "g%100=7");
        Due.due("the least of several", x.turn(5), 7);
    }

    private static void promise32() {
        Due.promise(32);
        CoatsByLot x = Due.withTrains();
        Due.due("nobody", x.gate(0, 99999), -99999);
        x.price(0, 4);
        x.group(0, 1, 10, 1);
        x.group(1, 1, 20, 1);
        x.group(1, 12, 40, 1);
        x.group(1, 23, 80, 1);
        x.group(1, 34, 160, 1);
        x.group(100, 1, 320, 1);
        x.group(2, 1, 640, 1);
        Due.due("at 0", x.gate(0, 7), 4 * (10 + 80) - 7);
        Due.due("at 1", x.gate(1, 0), 4 * 40);
        Due.due("at 2", x.gate(2, 0), 4 * (20 + 640));
        Due.due("at 3", x.gate(3, 0), 0);
        x.extend(0, 3, 1);
        Due.due("at 3, when the LINE is longer", x.gate(3, 0), 4 * 20);
        Due.due("at 0, when the LINE is longer", x.gate(0, 0), 4 * (10 + 160));
        Due.due("no station", x.gate(4, 0), Due.BEYOND);
        Due.due("station -1", x.gate(-1, 0), Due.BEYOND);
        Due.due("cost -1", x.gate(0, -1), Due.BEYOND);
        Due.due("cost 100000", x.gate(0, 100000), Due.BEYOND);
    }

    private static void promise33() {
        Due.promise(33);
        CoatsByLot x = Due.withTrains();
        Due.due("nobody, above", x.wrong(1000, 0), 0);
        Due.due("nobody, below", x.wrong(1000, 1), 1);
        x.group(100, 1, 30, 1);
        x.group(101, 1, 7, 1);
        x.group(0, 1, 500, 1);
        Due.due("without LOTS, below", x.wrong(10, 1), 1);
        x.shift(1);
        x.shift(3);
        x.lots(0, 1);
        x.lots(1, 2);
        // (30 + 7 * 2 / 3) * 10 / 1000
        Due.due("above", x.wrong(10, 0), 26);
        Due.due("below", x.wrong(10, 1), 75);
        Due.due("e 1000, above", x.wrong(1000, 0), 104);
        Due.due("e 1000, below", x.wrong(1000, 1), 3);
        Due.due("e 0, above", x.wrong(0, 0), 0);
        Due.due("e 0, below", x.wrong(0, 1), 1);
        Due.due("e -1", x.wrong(-1, 0), Due.BEYOND);
        Due.due("e 1001", x.wrong(1001, 0), Due.BEYOND);
        Due.due("part 2", x.wrong(1, 2), Due.BEYOND);
        Due.due("part -1", x.wrong(1, -1), Due.BEYOND);
    }

    private static void promise34() {
        Due.promise(34);
        CoatsByLot x = Due.withTrains();
        Due.due("x 0", x.seen(0, 0), 1);
        Due.due("never", x.seen(0, 1), Due.NONE);
        Due.due("no train", x.seen(5, 0), Due.BEYOND);
        Due.due("train -1", x.seen(-1, 0), Due.BEYOND);
        Due.due("x -1", x.seen(0, -1), Due.BEYOND);
        Due.due("x 101", x.seen(0, 101), Due.BEYOND);
        x.shift(1);
        x.lots(0, 1);
        Due.due("surely", x.seen(0, 100), 1);
        x.shift(2);
        x.lots(1, 1);
        Due.due("half: 50", x.seen(0, 50), 1);
        Due.due("half: 51", x.seen(0, 51), 2);
        Due.due("half: 75", x.seen(0, 75), 2);
        Due.due("half: 76", x.seen(0, 76), 3);
        Due.due("half: 99", x.seen(0, 99), 7);
        Due.due("half: 100", x.seen(0, 100), Due.NONE);
        x.lots(1, 9);
        // 1 - 0.9 ** 8 is 0.5695..
        Due.due("a tenth: 56", x.seen(0, 56), 8);
        Due.due("a tenth: 57", x.seen(0, 57), Due.NONE);
        for (int i = 2; i < 8; i++) {
            x.shift(2);
            x.lots(i, 9);
        }
        x.lots(0, 9);
        // 1 - (7 / 8) ** 8 is 0.6563..
        Due.due("9 of 72: 65", x.seen(0, 65), 8);
        Due.due("9 of 72: 66", x.seen(0, 66), Due.NONE);
        Due.due("63 of 72: 99", x.seen(1, 99), 3);
    }

    private static void promise35() {
        Due.promise(35);
        CoatsByLot x = Due.withTrains();
        Due.due("nobody", x.fair(0), Due.NONE);
        Due.due("what 2", x.fair(2), Due.BEYOND);
        Due.due("what -1", x.fair(-1), Due.BEYOND);
        x.group(102, 1, 10, 1);
        Due.due("LINE 0 is empty", x.fair(0), 1);
        Due.due("all pay", x.fair(1), 0);
        x.group(101, 1, 20, 1);
        Due.due("the least of several", x.fair(0), 0);
        x.group(2, 1, 5, 1);
        Due.due("a third", x.fair(0), 1);
        Due.due("a third, cut", x.fair(1), 33);
        x.group(3, 1, 10, 1);
        Due.due("a third of both", x.fair(0), 0);
        x.group(0, 1, 1, 1);
        Due.due("11 of 31", x.fair(1), 35);
        x.group(102, 1, 1, 1);
        x.group(2, 1, 1, 1);
        // 6 of 17 is 35 of 100 as well, once it is cut
        Due.due("like ones, as they are cut", x.fair(0), 0);
        x.group(2, 1, 1, 1);
        Due.due("7 of 18", x.fair(0), 1);
        Due.due("7 of 18, of 100", x.fair(1), 38);
        CoatsByLot y = Due.withTrains();
        y.group(0, 1, 999, 1);
        Due.due("all don't pay", y.fair(1), 100);
    }
}
