/** Promises 1 to 9: a new object, stations, lines, trains. */
public final class RoadsTest {
    private RoadsTest() {
    }

    public static void main(String[] args) {
        promise1();
        promise2();
        promise3();
        promise4();
        promise5();
        promise6();
        promise7();
        promise8();
        promise9();
        Due.end();
    }

    private static void promise1() {
        Due.promise(1);
        CoatsByLot x = new CoatsByLot();
        for (int what = 0; what <= 11; what++) {
            Due.due("new: count(" + what + ")", x.count(what), 0);
        }
        Due.due("new: z", x.count(12), 1);
        for (int k = 1; k <= 5; k++) {
            Due.due("new: told(" + k + ")", x.told(k), 0);
        }
        Due.due("new: FARE", x.price(0, 3), 3);
        Due.due("new: FINE", x.price(1, 60), 60);
        Due.due("new: unpaid", x.unpaid(), 0);
        Due.due("new: no IMAGE", x.restore(), Due.NONE);
        Due.due("new: SHEET 0 is missing", x.put(0, 0, 1), Due.NONE);
        Due.due("new: no WEIGH", x.law(0, 1, 1, 1, 1), 1);
        Due.due("new: no SHIFT RULE", x.law(1, 0, 0, 0, 0), 1);
        CoatsByLot other = new CoatsByLot();
        x.station();
        Due.due("objects are apart", other.count(1), 0);
    }

    private static void promise2() {
        Due.promise(2);
        CoatsByLot x = new CoatsByLot();
        for (int i = 0; i < 8; i++) {
            Due.due("station " + i, x.station(), i);
        }
        Due.due("station 8", x.station(), Due.FULL);
        Due.due("told FULL", x.told(4), 1);
        Due.due("STATIONS", x.count(1), 8);
    }

    private static void promise3() {
        Due.promise(3);
        CoatsByLot x = Due.withStations(3);
        Due.due("walk at first", x.walk(0, 1, 60), -1);
        Due.due("walk back is the same", x.walk(1, 0, 0), 60);
        Due.due("walk of 0", x.walk(0, 1, -1), 0);
        Due.due("walk of none", x.walk(0, 1, 5), -1);
        Due.due("walk of others", x.walk(0, 2, 5), -1);
        Due.due("walk to itself", x.walk(2, 2, 0), Due.BEYOND);
        Due.due("walk 61", x.walk(0, 1, 61), Due.BEYOND);
        Due.due("walk -2", x.walk(0, 1, -2), Due.BEYOND);
        Due.due("walk of no station", x.walk(0, 3, 1), Due.BEYOND);
        Due.due("walk of -1", x.walk(-1, 0, 1), Due.BEYOND);
        Due.due("walk after errors", x.walk(0, 1, 6), 5);
    }

    private static void promise4() {
        Due.promise(4);
        CoatsByLot x = Due.withStations(3);
        Due.due("line leg 0", x.line(0, 1, 0), Due.BEYOND);
        Due.due("line leg 31", x.line(0, 1, 31), Due.BEYOND);
        Due.due("line twice", x.line(1, 1, 5), Due.BEYOND);
        Due.due("line of no station", x.line(0, 3, 5), Due.BEYOND);
        Due.due("line of -1", x.line(-1, 0, 5), Due.BEYOND);
        Due.due("line 0", x.line(0, 1, 1), 0);
        Due.due("line 1", x.line(0, 1, 30), 1);
        Due.due("line 2", x.line(2, 1, 30), 2);
        Due.due("line 3", x.line(1, 2, 30), 3);
        Due.due("line 4", x.line(1, 2, 30), Due.FULL);
        Due.due("BEYOND ahead of FULL", x.line(1, 1, 30), Due.BEYOND);
        Due.due("LINES", x.count(2), 4);
    }

    private static void promise5() {
        Due.promise(5);
        CoatsByLot x = Due.withStations(3);
        x.line(0, 1, 5);
        Due.due("extend by the last", x.extend(0, 1, 5), Due.BEYOND);
        Due.due("extend of no line", x.extend(1, 0, 5), Due.BEYOND);
        Due.due("extend of line -1", x.extend(-1, 0, 5), Due.BEYOND);
        Due.due("extend by no station", x.extend(0, 3, 5), Due.BEYOND);
        Due.due("extend leg 0", x.extend(0, 0, 0), Due.BEYOND);
        Due.due("extend leg 31", x.extend(0, 0, 31), Due.BEYOND);
        Due.due("extend by an earlier one", x.extend(0, 0, 1), 3);
        Due.due("extend to 4", x.extend(0, 2, 30), 4);
        Due.due("extend to 5", x.extend(0, 1, 2), 5);
        Due.due("extend to 6", x.extend(0, 2, 3), 6);
        Due.due("extend to 7", x.extend(0, 1, 3), Due.FULL);
        Due.due("BEYOND ahead of FULL", x.extend(0, 2, 3), Due.BEYOND);
        x.line(2, 0, 9);
        Due.due("the next line is its own", x.ofLine(1, 0), 2);
        Due.due("it has two", x.ofLine(1, -1), 2);
    }

    private static void promise6() {
        Due.promise(6);
        CoatsByLot x = Due.withTrains();
        Due.due("ofLine -1", x.ofLine(0, -1), 3);
        Due.due("ofLine 0", x.ofLine(0, 0), 0);
        Due.due("ofLine 2", x.ofLine(0, 2), 2);
        Due.due("ofLine 3", x.ofLine(0, 3), Due.NONE);
        Due.due("ofLine max", x.ofLine(0, Integer.MAX_VALUE), Due.NONE);
        Due.due("ofLine -2", x.ofLine(0, -2), Due.BEYOND);
        Due.due("ofLine of no line", x.ofLine(2, 9), Due.BEYOND);
        Due.due("ofLine of -1", x.ofLine(-1, 0), Due.BEYOND);
    }

    private static void promise7() {
        Due.promise(7);
        CoatsByLot x = Due.withStations(2);
        Due.due("train of no line", x.train(0, 0, 0), Due.BEYOND);
        x.line(0, 1, 1);
        Due.due("train start -1", x.train(0, -1, 0), Due.BEYOND);
        Due.due("train start 1200", x.train(0, 1200, 0), Due.BEYOND);
        Due.due("train back 2", x.train(0, 0, 2), Due.BEYOND);
        Due.due("train back -1", x.train(0, 0, -1), Due.BEYOND);
        Due.due("train line -1", x.train(-1, 0, 0), Due.BEYOND);
        for (int i = 0; i < 12; i++) {
            Due.due("train " + i, x.train(0, i * 109, i % 2), i);
        }
        Due.due("train 12", x.train(0, 0, 0), Due.FULL);
        Due.due("BEYOND ahead of FULL", x.train(1, 0, 0), Due.BEYOND);
        Due.due("the last one starts", x.ofTrain(11, 1), 1199);
        Due.due("END above 1199", x.ofTrain(11, 3), 1200);
    }

    private static void promise8() {
        Due.promise(8);
        CoatsByLot x = Due.withTrains();
        int[] due = {0, 120, 1, 137, 2, 0, 0};
        for (int what = 0; what < due.length; what++) {
            Due.due("ofTrain(1, " + what + ")", x.ofTrain(1, what), due[what]);
        }
        Due.due("ofTrain(2, 0)", x.ofTrain(2, 0), 1);
        Due.due("ofTrain(0, 5)", x.ofTrain(0, 5), 2);
        Due.due("ofTrain what 7", x.ofTrain(0, 7), Due.BEYOND);
        Due.due("ofTrain what -1", x.ofTrain(0, -1), Due.BEYOND);
        Due.due("ofTrain of none", x.ofTrain(5, 0), Due.BEYOND);
        Due.due("ofTrain of -1", x.ofTrain(-1, 0), Due.BEYOND);
        x.shift(3);
        x.shift(2);
        x.shift(4);
        x.lots(0, 4);
        x.lots(1, 3);
        x.lots(2, 1);
        Due.due("LOTS of SHIFTS with 0", x.ofTrain(0, 6), 4);
        Due.due("LOTS of SHIFTS with 1", x.ofTrain(1, 6), 7);
        x.extend(0, 3, 30);
        Due.due("as the LINE is now: END", x.ofTrain(1, 3), 167);
        Due.due("as the LINE is now: first", x.ofTrain(1, 4), 3);
        Due.due("as the LINE is now: last", x.ofTrain(0, 5), 3);
        fullLines();
    }

    private static void fullLines() {
        CoatsByLot x = Due.withStations(8);
        for (int line = 0; line < 4; line++) {
            x.line(line, line + 1, 1);
            for (int i = 2; i < 6; i++) {
                x.extend(line, (line + i) % 8, i * 2 + line);
            }
            x.train(line, 1000, 0);
            x.train(line, 1000, 1);
        }
        for (int line = 0; line < 4; line++) {
            int end = 1000 + 1 + 4 + 6 + 8 + 10 + 4 * line;
            Due.due("END on LINE " + line, x.ofTrain(2 * line, 3), end);
            Due.due("END back on LINE " + line, x.ofTrain(2 * line + 1, 3), end);
            Due.due("last STATION of LINE " + line, x.ofTrain(2 * line, 5), (line + 5) % 8);
            Due.due("last STATION back on LINE " + line, x.ofTrain(2 * line + 1, 5), line);
            Due.due("second STOP back on LINE " + line, x.stop(2 * line + 1, 1, 1), 1010 + line);
        }
    }

    private static void promise9() {
        Due.promise(9);
        CoatsByLot x = Due.withTrains();
        int[] stations = {0, 1, 2};
        int[] there = {100, 110, 117};
        int[] back = {120, 127, 137};
        for (int i = 0; i < 3; i++) {
            Due.due("stop(0, " + i + ", 0)", x.stop(0, i, 0), stations[i]);
            Due.due("stop(0, " + i + ", 1)", x.stop(0, i, 1), there[i]);
            Due.due("stop(1, " + i + ", 0)", x.stop(1, i, 0), stations[2 - i]);
            Due.due("stop(1, " + i + ", 1)", x.stop(1, i, 1), back[i]);
        }
        Due.due("stop 3", x.stop(0, 3, 0), Due.NONE);
        Due.due("stop -1", x.stop(0, -1, 0), Due.BEYOND);
        Due.due("stop what 2", x.stop(0, 9, 2), Due.BEYOND);
        Due.due("stop what -1", x.stop(0, 0, -1), Due.BEYOND);
        Due.due("stop of no train", x.stop(5, 9, 0), Due.BEYOND);
        Due.due("stop of train -1", x.stop(-1, 0, 0), Due.BEYOND);
        x.extend(0, 0, 1);
        Due.due("a further stop", x.stop(0, 3, 1), 118);
        Due.due("a new first stop", x.stop(1, 0, 0), 0);
        Due.due("the next stop's minute", x.stop(1, 1, 1), 121);
    }
}
