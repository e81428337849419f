/** Boundary cases of promises 1 to 9: a new object, stations, lines, trains. */
public final class RoadsEdgesTest {
    private RoadsEdgesTest() {
    }

    public static void main(String[] args) {
        promise1();
        promise1OfTexts();
        promise2();
        promise3();
        promise3OfAllPairs();
        promise4();
        promise4WhenFull();
        promise5();
        promise5WhenFull();
        promise6();
        promise7();
        promise7WhenFull();
        promise8();
        promise8OfTheLongest();
        promise9();
        Due.end();
    }

    private static void first(String what, long due, Edge.Call call) {
        Due.due("a new object's " + what, call.of(new CoatsByLot(), 0), due);
    }

    private static void promise1() {
        Due.promise(1);
        first("walk", Due.BEYOND, (x, v) -> x.walk(0, 1, 5));
        first("line", Due.BEYOND, (x, v) -> x.line(0, 1, 5));
        first("extend", Due.BEYOND, (x, v) -> x.extend(0, 0, 5));
        first("ofLine", Due.BEYOND, (x, v) -> x.ofLine(0, -1));
        first("train", Due.BEYOND, (x, v) -> x.train(0, 0, 0));
        first("ofTrain", Due.BEYOND, (x, v) -> x.ofTrain(0, 0));
        first("stop", Due.BEYOND, (x, v) -> x.stop(0, 0, 0));
        first("group", Due.BEYOND, (x, v) -> x.group(0, 1, 1, 1));
        first("ofGroup", Due.BEYOND, (x, v) -> x.ofGroup(0, 0));
        first("as", Due.BEYOND, (x, v) -> x.as(0, 0));
        first("believe", Due.BEYOND, (x, v) -> x.believe(0, 1));
        first("walked", Due.BEYOND, (x, v) -> x.walked(1));
        first("shift", Due.BEYOND, (x, v) -> x.shift(1));
        first("lots", Due.BEYOND, (x, v) -> x.lots(0, 0));
        first("ofShift", Due.BEYOND, (x, v) -> x.ofShift(0, 0));
        first("odds", Due.BEYOND, (x, v) -> x.odds(0, 0));
        first("unpaid", 0, (x, v) -> x.unpaid());
        first("best", Due.NONE, (x, v) -> x.best(1, -1));
        first("plan", Due.NONE, (x, v) -> x.plan(1));
        first("days", Due.STATE, (x, v) -> x.days(1));
        first("find", Due.NONE, (x, v) -> x.find(0, 0));
        first("average", Due.NONE, (x, v) -> x.average());
        first("telling", Due.BEYOND, (x, v) -> x.telling(0, 0, 0, 0));
        first("turn", 0, (x, v) -> x.turn(0));
        first("gate", Due.BEYOND, (x, v) -> x.gate(0, 0));
        first("seen", Due.BEYOND, (x, v) -> x.seen(0, 0));
        first("fair", Due.NONE, (x, v) -> x.fair(0));
        first("z", 1, (x, v) -> x.seed(0));
        first("voice", Due.BEYOND, (x, v) -> x.voice(0, 0, 0));
        first("trace", Due.NONE, (x, v) -> x.trace(0));
        first("restore", Due.NONE, (x, v) -> x.restore());
        first("image", 1, (x, v) -> x.image());
        first("tell", 1, (x, v) -> x.tell(0));
        first("check", Due.BEYOND, (x, v) -> x.check(0));
    }

    private static void promise1OfTexts() {
        first("FARE", 3, (x, v) -> x.price(0, 1));
        first("FINE", 60, (x, v) -> x.price(1, 1));
        first("THE TAPE", 1, (x, v) -> x.feed(0L, 1));
        first("empty THE TAPE's FAULT", -10, (x, v) -> x.text(0));
        first("WEIGH", 0, (x, v) -> x.law(0, 1, 1, 0, 1));
        first("SHIFT RULE", 1, (x, v) -> x.law(1, 0, 0, 0, 0));
        for (int part = 0; part < 2; part++) {
            int asked = part;
            first("COIN, part " + part, part, (x, v) -> x.coin(asked));
            first("WRONG, part " + part, part, (x, v) -> x.wrong(1000, asked));
        }
        for (int sheet = 0; sheet < 4; sheet++) {
            int asked = sheet;
            first("SHEET " + sheet, Due.NONE, (x, v) -> x.put(asked, 0, 0));
            first("groups of SHEET " + sheet, Due.NONE, (x, v) -> x.groups(asked));
            first("move of SHEET " + sheet, Due.NONE, (x, v) -> x.move(asked, 0, asked, 0, 0));
        }
        for (int what = 0; what <= 12; what++) {
            int asked = what;
            first("count(" + what + ")", what == 12 ? 1 : 0, (x, v) -> x.count(asked));
        }
        for (int k = 1; k <= 5; k++) {
            int asked = k;
            first("told(" + k + ")", 0, (x, v) -> x.told(asked));
        }
    }

    private static void promise2() {
        Due.promise(2);
        for (int many = 0; many < 8; many++) {
            Due.due("station() of " + many, Due.withStations(many).station(), many);
        }
        CoatsByLot x = Due.withStations(8);
        Due.due("station() of 8", x.station(), Due.FULL);
        Due.due("station() of 8, once more", x.station(), Due.FULL);
        Due.due("how many there are", x.count(1), 8);
        Due.due("walk() to the last one", x.walk(7, 0, 1), -1);
        Due.due("walk() to what there was no room for", x.walk(8, 0, 1), Due.BEYOND);
        Due.due("told(4)", x.told(4), 2);
    }

    private static void promise3() {
        Due.promise(3);
        Edge.Maker three = () -> Due.withStations(3);
        Edge.bounds("one", three, 0, 2, (x, v) -> x.walk(v, 1, 5));
        Edge.bounds("other", three, 0, 2, (x, v) -> x.walk(1, v, 5));
        Edge.bounds("minutes", three, -1, 60, (x, v) -> x.walk(0, 1, v));
        Edge.bounds("one, when there are 8", () -> Due.withStations(8), 0, 7, (x, v) -> x.walk(v, 1, 5));
        CoatsByLot x = Due.withStations(3);
        for (int station = 0; station < 3; station++) {
            for (int minutes : new int[] {-1, 0, 60}) {
                Due.due("one and the same", x.walk(station, station, minutes), Due.BEYOND);
            }
        }
        x.walk(0, 1, 60);
        x.walk(0, 1, 61);
        x.walk(1, 0, -2);
        x.walk(0, 0, 3);
        Due.due("a refused one changes nothing: it", x.walk(1, 0, 0), 60);
        Due.due("0 MINUTES, which are a WALK", x.walk(0, 1, -1), 0);
        Due.due("none", x.walk(1, 0, -1), -1);
        Due.due("none, once more", x.walk(1, 0, 3), -1);
        x.station();
        Due.due("the first one of a later STATION", x.walk(3, 0, 4), -1);
    }

    private static void promise3OfAllPairs() {
        CoatsByLot x = Due.withStations(8);
        for (int one = 0; one < 8; one++) {
            for (int other = one + 1; other < 8; other++) {
                Due.due("at first, of " + one + " and " + other, x.walk(one, other, one * 7 + other), -1);
            }
        }
        for (int one = 0; one < 8; one++) {
            for (int other = one + 1; other < 8; other++) {
                Due.due("the way back, of " + one + " and " + other, x.walk(other, one, -1), one * 7 + other);
            }
        }
    }

    private static void promise4() {
        Due.promise(4);
        Edge.Maker three = () -> Due.withStations(3);
        Edge.bounds("one", three, 0, 2, (x, v) -> x.line(v, 1, 5));
        Edge.bounds("other", three, 0, 2, (x, v) -> x.line(1, v, 5));
        Edge.bounds("leg", three, 1, 30, (x, v) -> x.line(0, 1, v));
        CoatsByLot x = Due.withStations(3);
        for (int station = 0; station < 3; station++) {
            Due.due("one twice", x.line(station, station, 5), Due.BEYOND);
        }
        Due.due("how many, of refused ones", x.count(2), 0);
        Due.due("line()", x.line(2, 0, 30), 0);
        Due.due("its STATIONS", x.ofLine(0, -1), 2);
        Due.due("its first one", x.ofLine(0, 0), 2);
        Due.due("its last one", x.ofLine(0, 1), 0);
        Due.due("the same once more", x.line(2, 0, 30), 1);
    }

    private static void promise4WhenFull() {
        CoatsByLot x = Edge.with(2, 3, 0);
        Due.due("line() of 3", x.line(0, 1, 1), 3);
        Due.due("line() of 4", x.line(0, 1, 1), Due.FULL);
        Due.due("line() of 4, once more", x.line(1, 0, 30), Due.FULL);
        Edge.Maker full = () -> Edge.with(2, 4, 0);
        Edge.beyond("BEYOND ahead of FULL: one", full, (y, v) -> y.line(v, 1, 5), -1, 2);
        Edge.beyond("BEYOND ahead of FULL: other", full, (y, v) -> y.line(0, v, 5), -1, 2);
        Edge.beyond("BEYOND ahead of FULL: leg", full, (y, v) -> y.line(0, 1, v), 0, 31);
        Edge.beyond("BEYOND ahead of FULL: one twice", full, (y, v) -> y.line(v, v, 5), 0, 1);
        Due.due("how many there are", x.count(2), 4);
    }

    private static void promise5() {
        Due.promise(5);
        Edge.Maker two = () -> Edge.with(4, 2, 0);
        Edge.bounds("line", two, 0, 1, (x, v) -> x.extend(v, 3, 5));
        Edge.bounds("station", two, 0, 3, (x, v) -> x.extend(0, v, 5));
        Edge.bounds("leg", two, 1, 30, (x, v) -> x.extend(0, 3, v));
        Edge.beyond("the last one itself", two, (x, v) -> x.extend(0, v, 5), 1);
        CoatsByLot x = Edge.with(3, 2, 0);
        Due.due("the first one, which isn't the last", x.extend(0, 0, 5), 3);
        Due.due("what is the last one now", x.extend(0, 0, 5), Due.BEYOND);
        Due.due("what isn't any longer", x.extend(0, 1, 5), 4);
        Due.due("the other LINE stays", x.ofLine(1, -1), 2);
    }

    /** LINES of 6 STATIONS: 0, 1, 2, 3, 4, 5, with LEGS of 1, then of 30 MINUTES. */
    private static CoatsByLot withLongLines(int lines) {
        CoatsByLot x = Edge.with(8, lines, 0);
        for (int line = 0; line < lines; line++) {
            for (int station = 2; station < 6; station++) {
                x.extend(line, station, 30);
            }
        }
        return x;
    }

    private static void promise5WhenFull() {
        CoatsByLot x = Edge.with(8, 4, 0);
        for (int line = 0; line < 4; line++) {
            for (int size = 3; size <= 6; size++) {
                Due.due("extend() of LINE " + line, x.extend(line, size, 30), size);
            }
            Due.due("extend() of 6", x.extend(line, 0, 30), Due.FULL);
            Due.due("how many there are", x.ofLine(line, -1), 6);
            Due.due("the last one", x.ofLine(line, 5), 6);
        }
        Edge.Maker full = () -> withLongLines(1);
        Edge.beyond("BEYOND ahead of FULL: the last one", full, (y, v) -> y.extend(0, v, 1), 5);
        Edge.beyond("BEYOND ahead of FULL: station", full, (y, v) -> y.extend(0, v, 1), -1, 8);
        Edge.beyond("BEYOND ahead of FULL: leg", full, (y, v) -> y.extend(0, 0, v), 0, 31);
        Edge.beyond("BEYOND ahead of FULL: line", full, (y, v) -> y.extend(v, 0, 1), -1, 1);
    }

    private static void promise6() {
        Due.promise(6);
        Edge.Maker two = () -> Edge.with(2, 2, 0);
        Edge.bounds("line", two, 0, 1, (x, v) -> x.ofLine(v, 0));
        Edge.bounds("line, of i -1", two, 0, 1, (x, v) -> x.ofLine(v, -1));
        Edge.beyond("i", two, (x, v) -> x.ofLine(0, v), Edge.MIN, -2);
        Edge.taken("i", two, (x, v) -> x.ofLine(0, v), -1, 0, 1);
        Edge.beyond("BEYOND ahead of NONE: line", two, (x, v) -> x.ofLine(v, 2), -1, 2);
        CoatsByLot x = withLongLines(4);
        for (int line = 0; line < 4; line++) {
            Due.due("the last of 6", x.ofLine(line, 5), 5);
            Due.due("behind the last of 6", x.ofLine(line, 6), Due.NONE);
            Due.due("far behind the last of 6", x.ofLine(line, Edge.MAX), Due.NONE);
        }
        CoatsByLot y = two.make();
        Due.due("behind the last of 2", y.ofLine(0, 2), Due.NONE);
        y.extend(0, 0, 1);
        Due.due("what is there now", y.ofLine(0, 2), 0);
    }

    private static void promise7() {
        Due.promise(7);
        Edge.Maker two = () -> Edge.with(2, 2, 0);
        Edge.bounds("line", two, 0, 1, (x, v) -> x.train(v, 5, 0));
        Edge.bounds("line, when there are 4", () -> Edge.with(2, 4, 0), 0, 3, (x, v) -> x.train(v, 5, 0));
        Edge.bounds("start", two, 0, 1199, (x, v) -> x.train(0, v, 0));
        Edge.bounds("back", two, 0, 1, (x, v) -> x.train(0, 5, v));
        Edge.beyond("a LINE, when there is none", () -> Due.withStations(2), (x, v) -> x.train(v, 5, 0), 0);
        CoatsByLot x = two.make();
        x.train(0, 1200, 0);
        Due.due("how many, of a refused one", x.count(3), 0);
    }

    private static void promise7WhenFull() {
        CoatsByLot x = Edge.with(2, 1, 0);
        for (int train = 0; train < 12; train++) {
            Due.due("train()", x.train(0, 1199 - train, train % 2), train);
        }
        Due.due("train() of 12", x.train(0, 5, 0), Due.FULL);
        Due.due("train() of 12, once more", x.train(0, 5, 0), Due.FULL);
        Edge.Maker full = () -> Edge.with(2, 1, 12);
        Edge.beyond("BEYOND ahead of FULL: line", full, (y, v) -> y.train(v, 5, 0), -1, 1);
        Edge.beyond("BEYOND ahead of FULL: start", full, (y, v) -> y.train(0, v, 0), -1, 1200);
        Edge.beyond("BEYOND ahead of FULL: back", full, (y, v) -> y.train(0, 5, v), -1, 2);
        Due.due("how many there are", x.count(3), 12);
        Due.due("START of the first one", x.ofTrain(0, 1), 1199);
        Due.due("START of the last one", x.ofTrain(11, 1), 1188);
        Due.due("BACK of the last one", x.ofTrain(11, 2), 1);
        Due.due("BACK of the one ahead", x.ofTrain(10, 2), 0);
    }

    private static void promise8() {
        Due.promise(8);
        Edge.Maker three = () -> Edge.with(2, 1, 3);
        Edge.bounds("train", three, 0, 2, (x, v) -> x.ofTrain(v, 0));
        Edge.bounds("train, when there are 12", () -> Edge.with(2, 1, 12), 0, 11, (x, v) -> x.ofTrain(v, 6));
        Edge.bounds("what", three, 0, 6, (x, v) -> x.ofTrain(0, v));
        CoatsByLot x = three.make();
        Due.due("LOTS without SHIFTS", x.ofTrain(0, 6), 0);
        for (int shift = 0; shift < 8; shift++) {
            x.shift(2);
            x.lots(shift, 9);
        }
        Due.due("the most LOTS", x.ofTrain(1, 6), 72);
        Due.due("LOTS of a TRAIN ahead of it", x.ofTrain(0, 6), 0);
        Due.due("LOTS of a TRAIN behind it", x.ofTrain(2, 6), 0);
    }

    private static void promise8OfTheLongest() {
        CoatsByLot x = Edge.with(8, 1, 0);
        x.train(0, 1199, 0);
        x.train(0, 0, 1);
        Due.due("END of 2 STOPS", x.ofTrain(0, 3), 1200);
        Due.due("where it ends", x.ofTrain(0, 5), 1);
        Due.due("where one starts that goes back", x.ofTrain(1, 4), 1);
        for (int station = 2; station < 6; station++) {
            x.extend(0, station, 30);
        }
        Due.due("END of 6 STOPS, far above 1199", x.ofTrain(0, 3), 1199 + 1 + 4 * 30);
        Due.due("END of one that goes back", x.ofTrain(1, 3), 1 + 4 * 30);
        Due.due("where it ends now", x.ofTrain(0, 5), 5);
        Due.due("where one starts now that goes back", x.ofTrain(1, 4), 5);
        Due.due("where one ends that goes back", x.ofTrain(1, 5), 0);
        Due.due("START stays", x.ofTrain(0, 1), 1199);
        CoatsByLot y = withLongLines(4);
        for (int line = 0; line < 4; line++) {
            y.train(line, 0, 0);
            y.train(line, 0, 1);
            Due.due("END on LINE " + line, y.ofTrain(2 * line, 3), 121);
            Due.due("END back on LINE " + line, y.ofTrain(2 * line + 1, 3), 121);
        }
    }

    private static void promise9() {
        Due.promise(9);
        Edge.Maker three = () -> Edge.with(2, 1, 3);
        Edge.bounds("train", three, 0, 2, (x, v) -> x.stop(v, 0, 0));
        Edge.bounds("what", three, 0, 1, (x, v) -> x.stop(0, 0, v));
        Edge.beyond("i", three, (x, v) -> x.stop(0, v, 0), Edge.MIN, -1);
        Edge.taken("i", three, (x, v) -> x.stop(0, v, 0), 0, 1);
        Edge.beyond("BEYOND ahead of NONE: train", three, (x, v) -> x.stop(v, 2, 0), -1, 3);
        Edge.beyond("BEYOND ahead of NONE: what", three, (x, v) -> x.stop(0, 2, v), -1, 2);
        CoatsByLot y = three.make();
        Due.due("behind the last of 2", y.stop(0, 2, 0), Due.NONE);
        Due.due("far behind the last of 2", y.stop(0, Edge.MAX, 1), Due.NONE);
        CoatsByLot x = withLongLines(4);
        x.train(3, 1199, 0);
        x.train(3, 1199, 1);
        Due.due("the last of 6", x.stop(0, 5, 0), 5);
        Due.due("its MINUTE", x.stop(0, 5, 1), 1199 + 1 + 4 * 30);
        Due.due("the last of 6 back", x.stop(1, 5, 0), 0);
        Due.due("its MINUTE", x.stop(1, 5, 1), 1199 + 1 + 4 * 30);
        Due.due("the first one's MINUTE", x.stop(1, 0, 1), 1199);
        Due.due("the second one's MINUTE", x.stop(0, 1, 1), 1200);
        Due.due("the second one's MINUTE back", x.stop(1, 1, 1), 1229);
        Due.due("behind the last of 6", x.stop(0, 6, 0), Due.NONE);
        Due.due("behind the last of 6 back", x.stop(1, 6, 0), Due.NONE);
    }
}
