/** Promises 27 to 29: DAYS, what is found, and its average. */
public final class DaysTest {
    private DaysTest() {
    }

    public static void main(String[] args) {
        promise27();
        drawsTellShifts();
        foundOfKinds();
        purse();
        promise28();
        promise29();
        Due.end();
    }

    private static CoatsByLot withOneShift() {
        CoatsByLot x = Due.withTrains();
        x.shift(1);
        x.lots(0, 2);
        return x;
    }

    private static void promise27() {
        Due.promise(27);
        CoatsByLot x = Due.withTrains();
        Due.due("ALL is 0", x.days(1), Due.STATE);
        Due.due("days 0", x.days(0), Due.BEYOND);
        Due.due("days 51", x.days(51), Due.BEYOND);
        x = withOneShift();
        x.group(0, 1, 7, 1);
        x.group(1, 1, 100, 1);
        Due.due("days 50", x.days(50), 350);
        Due.due("TODAY", x.count(0), 50);
        for (int i = 0; i < 6; i++) {
            x.days(50);
        }
        Due.due("TODAY 350", x.count(0), 350);
        Due.due("400 is too late", x.days(50), Due.STATE);
        Due.due("399 isn't", x.days(49), 343);
        Due.due("TODAY 399", x.count(0), 399);
        Due.due("no more", x.days(1), Due.STATE);
        Due.due("BEYOND is told ahead", x.days(51), Due.BEYOND);
        Due.due("FINDS that are kept", x.count(6), 60);
    }

    private static void drawsTellShifts() {
        CoatsByLot x = Due.withTrains();
        x.shift(1);
        x.shift(2);
        x.shift(4);
        x.shift(16);
        x.lots(1, 2);
        x.lots(3, 3);
        x.seed(-5);
        int z = -5;
        x.days(40);
        for (int i = 0; i < 40; i++) {
            z = z * 1103515245 + 12345;
            Due.due("SHIFT of day " + i, x.find(i, 0), (z >>> 8) % 5 < 2 ? 1 : 3);
        }
        Due.due("z then", x.count(12), z);
    }

    private static void foundOfKinds() {
        CoatsByLot x = withOneShift();
        x.price(1, 10);
        x.group(0, 1, 1, 12);
        x.group(600, 1, 2, 12);
        x.group(200, 1, 4, 9);
        x.group(400, 1, 8, 9);
        x.group(500, 1, 16, 9);
        x.group(700, 1, 32, 9);
        x.group(201, 1, 64, 9);
        Due.due("day 0", x.days(1), 1 + 4 + 8 + 16 + 32);
        Due.due("RIDER: BELIEF", x.ofGroup(0, 5), 12);
        Due.due("RIDER: UNTIL", x.ofGroup(0, 6), 0);
        Due.due("WEIGHING", x.ofGroup(2, 5), 19);
        Due.due("SHORT", x.ofGroup(3, 5), 19);
        Due.due("CAUGHT", x.ofGroup(4, 6), 30);
        Due.due("SPARED", x.ofGroup(5, 6), 1);
        Due.due("WEIGHING elsewhere", x.ofGroup(6, 5), 9);
        Due.due("day 1: SHORT pays now", x.days(1), 1 + 4 + 32);
        Due.due("SPARED, found again", x.ofGroup(5, 6), 31);
        Due.due("day 2: SPARED pays now", x.days(1), 1 + 4);
        Due.due("day 3: WEIGHING 3 of 9 pays", x.days(1), 1);
        Due.due("UNTIL, not found", x.ofGroup(5, 6), 31);
        x.days(16);
        Due.due("day 20", x.count(0), 20);
        Due.due("SPARED pays by day 20", x.ofGroup(5, 7), 1);
        x.days(1);
        Due.due("SPARED doesn't by day 21", x.ofGroup(5, 7), 0);
        x.days(8);
        Due.due("day 29", x.count(0), 29);
        Due.due("CAUGHT pays by day 29", x.ofGroup(4, 7), 1);
        x.days(1);
        Due.due("CAUGHT doesn't by day 30", x.ofGroup(4, 7), 0);
        x.days(1);
        Due.due("CAUGHT on day 30", x.ofGroup(4, 6), 60);
        capOfBelief();
    }

    private static void capOfBelief() {
        CoatsByLot x = withOneShift();
        Due.text(x, 0, "0");
        x.group(300, 1, 5, 89);
        x.group(200, 1, 5, 22);
        x.days(1);
        Due.due("READING: p is 1 more", x.ofGroup(0, 5), 99);
        Due.due("p is q at most", x.ofGroup(1, 5), 22);
        x.days(1);
        Due.due("READING: q at most", x.ofGroup(0, 5), 99);
    }

    private static void purse() {
        CoatsByLot x = withOneShift();
        x.group(0, 1, 3, 1);
        x.price(1, 11);
        x.days(2);
        Due.due("PURSE", x.count(7), 66);
        x.price(1, 999);
        for (int i = 0; i < 15; i++) {
            x.group(0, 1, 999, 1);
        }
        x.days(50);
        x.days(50);
        Due.due("PURSE grows", x.count(7), 66 + 100 * 999 * (15 * 999 + 3));
        x.days(50);
        Due.due("PURSE is full", x.count(7), 1999999999);
    }

    private static void promise28() {
        Due.promise(28);
        CoatsByLot x = withOneShift();
        Due.due("no FINDS", x.find(0, 0), Due.NONE);
        x.group(0, 1, 7, 1);
        x.shift(2);
        x.lots(0, 2);
        x.lots(1, 9);
        x.group(1, 1, 4, 1);
        x.days(20);
        for (int i = 0; i < 20; i++) {
            int shift = x.find(i, 0);
            Due.due("MANY of " + i, x.find(i, 1), shift == 0 ? 7 : 4);
            // 7 * 11 / 2 and 4 * 11 / 9, cut
            Due.due("RIGHT of " + i, x.find(i, 2), shift == 0 ? 38 : 4);
        }
        Due.due("both were found", x.ofShift(0, 2) > 0 && x.ofShift(1, 2) > 0 ? 1 : 0, 1);
        Due.due("find 20", x.find(20, 0), Due.NONE);
        Due.due("find -1", x.find(-1, 0), Due.BEYOND);
        Due.due("find what 3", x.find(99, 3), Due.BEYOND);
        Due.due("find what -1", x.find(0, -1), Due.BEYOND);
        CoatsByLot one = withOneShift();
        one.lots(0, 1);
        one.group(0, 1, 5, 1);
        one.days(1);
        Due.due("RIGHT by one LOT", one.find(0, 2), 5);
        CoatsByLot y = withOneShift();
        y.days(1);
        Due.due("a FIND with MANY 0 is kept", y.find(0, 1), 0);
        y.group(0, 1, 5, 1);
        y.days(50);
        y.days(8);
        y.group(0, 1, 7, 1);
        y.days(2);
        Due.due("the last FIND", y.find(59, 1), 12);
        Due.due("further ones aren't kept", y.find(60, 1), Due.NONE);
    }

    private static void promise29() {
        Due.promise(29);
        CoatsByLot x = withOneShift();
        Due.due("no FINDS", x.average(), Due.NONE);
        x.days(1);
        Due.due("average of one with MANY 0", x.average(), 0);
        x = withOneShift();
        x.group(0, 1, 5, 1);
        x.days(1);
        Due.due("average of one", x.average(), 5);
        x.days(1);
        Due.due("average", x.average(), 5);
        x.shift(2);
        x.lots(0, 0);
        x.lots(1, 1);
        x.days(1);
        Due.due("average, cut", x.average(), 3);
        CoatsByLot y = Due.withStations(2);
        y.line(0, 1, 1);
        y.train(0, 0, 0);
        for (int i = 0; i < 16; i++) {
            y.group(0, 1, 999, 1);
        }
        for (int i = 0; i < 8; i++) {
            y.shift(1);
            y.lots(i, 9);
        }
        y.lots(0, 1);
        for (int i = 1; i < 8; i++) {
            y.lots(i, 9);
        }
        y.days(50);
        y.days(10);
        int sum = 0;
        for (int i = 0; i < 60; i++) {
            int lots = y.find(i, 0) == 0 ? 1 : 9;
            Due.due("great RIGHT of " + i, y.find(i, 2), 15984 * 64 / lots);
            sum += 15984 * 64 / lots;
        }
        Due.due("great average", y.average(), sum / 60);
    }
}
