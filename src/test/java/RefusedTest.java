import java.util.List;
import java.util.function.Supplier;

/**
 * For each promise: a call that answers an ERROR changes nothing but what told() tells, and a call that only
 * asks changes nothing at all. A twin on which the call was not made tells what is due.
 */
public final class RefusedTest {
    private final Supplier<CoatsByLot> maker;
    private final List<String> untouched;
    private final String world;

    private RefusedTest(String world, Supplier<CoatsByLot> maker) {
        this.world = world;
        this.maker = maker;
        untouched = Exam.behind(maker, x -> 0);
    }

    public static void main(String[] args) {
        RefusedTest empty = new RefusedTest("a new object", CoatsByLot::new);
        RefusedTest some = new RefusedTest("an ordinary object", Worlds::ordinary);
        RefusedTest full = new RefusedTest("a full object", Worlds::full);
        for (RefusedTest each : List.of(empty, some, full)) {
            each.beyondOfRoads();
            each.beyondOfRiders();
            each.beyondOfPlans();
            each.beyondOfWhatWouldBe();
            each.beyondOfTheRest();
            each.askedOfAll();
        }
        empty.refusedByNothing();
        some.refusedByOthers();
        full.refusedByFull();
        some.askedOfSome();
        full.askedOfSome();
        some.seenByExam();
        some.allIsRestored();
        Due.end();
    }

    private void refused(int promise, String call, long error, Exam.Act act) {
        Due.promise(promise);
        String what = call + " of " + world;
        CoatsByLot x = maker.get();
        long[] due = Exam.told(x);
        Due.due(what, act.on(x), error);
        due[(int) (-1000000000 - error)]++;
        long[] told = Exam.told(x);
        for (int k = 1; k <= 5; k++) {
            Due.due("told(" + k + ") behind " + what, told[k], due[k]);
        }
        same(what, act);
    }

    private void beyond(int promise, String call, Exam.Act act) {
        refused(promise, call, Due.BEYOND, act);
    }

    private void asked(int promise, String call, Exam.Act act) {
        Due.promise(promise);
        CoatsByLot x = maker.get();
        Due.due(call + " of " + world + ", asked twice: that they differ", act.on(x) == act.on(x) ? 0 : 1, 0);
        same(call + " of " + world, act);
    }

    private void same(String what, Exam.Act act) {
        String unlike = firstUnlike(act);
        Due.due("what stands behind " + what + ": " + unlike, unlike.isEmpty() ? 0 : 1, 0);
    }

    private String firstUnlike(Exam.Act act) {
        List<String> behind = Exam.behind(maker, act);
        for (int i = 0; i < untouched.size(); i++) {
            if (!behind.get(i).equals(untouched.get(i))) {
                return behind.get(i) + " instead of " + untouched.get(i);
            }
        }
        return "";
    }

    private void seen(String call, Exam.Act act) {
        Due.due("the exam behind " + call, firstUnlike(act).isEmpty() ? 0 : 1, 1);
    }

    /** Were the exam blind to a change, then what stands above would prove nothing. */
    private void seenByExam() {
        seen("station()", x -> x.station());
        seen("walk()", x -> x.walk(3, 4, 60));
        seen("line()", x -> x.line(0, 1, 5));
        seen("extend()", x -> x.extend(1, 0, 5));
        seen("train()", x -> x.train(0, 5, 0));
        seen("group()", x -> x.group(0, 1, 1, 1));
        seen("believe()", x -> x.believe(0, 99));
        seen("price() of FARE", x -> x.price(0, 5));
        seen("price() of FINE", x -> x.price(1, 5));
        seen("feed()", x -> x.feed(0x31L, 1));
        seen("text(0)", x -> x.text(0));
        seen("text(1)", x -> x.text(1));
        seen("shift()", x -> x.shift(2));
        seen("lots()", x -> x.lots(3, 5));
        seen("plan()", x -> x.plan(1));
        seen("days()", x -> x.days(1));
        seen("seed()", x -> x.seed(54321));
        seen("voice()", x -> x.voice(0, 0, 5));
        seen("sheet()", x -> x.sheet(1, 8, 4));
        seen("sheet() of other bits", x -> x.sheet(1, 16, 5));
        seen("sheet() of one missing", x -> x.sheet(3, 8, 0));
        seen("put()", x -> x.put(2, 2, 322));
        seen("move()", x -> x.move(0, 0, 0, 4, 4));
        seen("groups()", x -> x.groups(0));
        seen("image()", x -> x.image());
        seen("restore()", x -> x.restore());
        seen("tell()", x -> x.tell(0));
        seen("check()", x -> x.check(0));
        seen("tell() of others", x -> x.check(0) + x.tell(1) + x.tell(0) + x.tell(9));
    }

    /** SHEETS, THE TRACE and how often stay as they are, so nothing here changes those behind image(). */
    private void allIsRestored() {
        Due.promise(44);
        List<String> due = Exam.behind(maker, x -> x.image());
        List<String> got = Exam.behind(maker, x -> {
            x.image();
            Worlds.changeAgain(x);
            return x.restore();
        });
        for (int i = 0; i < due.size(); i++) {
            Due.due("restored: " + got.get(i) + ", due is " + due.get(i) + ": that they differ",
                    got.get(i).equals(due.get(i)) ? 0 : 1, 0);
        }
    }

    private void beyondOfRoads() {
        beyond(3, "walk(0, 0, 5)", x -> x.walk(0, 0, 5));
        beyond(3, "walk(0, 1, 61)", x -> x.walk(0, 1, 61));
        beyond(3, "walk(0, 1, -2)", x -> x.walk(0, 1, -2));
        beyond(3, "walk(8, 1, 5)", x -> x.walk(8, 1, 5));
        beyond(3, "walk(1, -1, 5)", x -> x.walk(1, -1, 5));
        beyond(4, "line(1, 1, 5)", x -> x.line(1, 1, 5));
        beyond(4, "line(0, 1, 0)", x -> x.line(0, 1, 0));
        beyond(4, "line(0, 1, 31)", x -> x.line(0, 1, 31));
        beyond(4, "line(-1, 1, 5)", x -> x.line(-1, 1, 5));
        beyond(4, "line(0, 8, 5)", x -> x.line(0, 8, 5));
        beyond(5, "extend(4, 0, 5)", x -> x.extend(4, 0, 5));
        beyond(5, "extend(0, 8, 5)", x -> x.extend(0, 8, 5));
        beyond(5, "extend(0, 0, 0)", x -> x.extend(0, 0, 0));
        beyond(5, "extend(0, 0, 31)", x -> x.extend(0, 0, 31));
        beyond(6, "ofLine(0, -2)", x -> x.ofLine(0, -2));
        beyond(6, "ofLine(4, -1)", x -> x.ofLine(4, -1));
        beyond(7, "train(4, 5, 0)", x -> x.train(4, 5, 0));
        beyond(7, "train(0, 1200, 0)", x -> x.train(0, 1200, 0));
        beyond(7, "train(0, -1, 0)", x -> x.train(0, -1, 0));
        beyond(7, "train(0, 5, 2)", x -> x.train(0, 5, 2));
        beyond(8, "ofTrain(12, 0)", x -> x.ofTrain(12, 0));
        beyond(8, "ofTrain(0, 7)", x -> x.ofTrain(0, 7));
        beyond(9, "stop(12, 0, 0)", x -> x.stop(12, 0, 0));
        beyond(9, "stop(0, -1, 0)", x -> x.stop(0, -1, 0));
        beyond(9, "stop(0, 0, 2)", x -> x.stop(0, 0, 2));
    }

    private void beyondOfRiders() {
        beyond(10, "group(12, 1, 1, 1)", x -> x.group(12, 1, 1, 1));
        beyond(10, "group(800, 1, 1, 1)", x -> x.group(800, 1, 1, 1));
        beyond(10, "group(0, 11, 1, 1)", x -> x.group(0, 11, 1, 1));
        beyond(10, "group(0, 1, 1000, 1)", x -> x.group(0, 1, 1000, 1));
        beyond(10, "group(0, 1, 1, 21)", x -> x.group(0, 1, 1, 21));
        beyond(11, "ofGroup(16, 0)", x -> x.ofGroup(16, 0));
        beyond(11, "ofGroup(0, 8)", x -> x.ofGroup(0, 8));
        beyond(12, "as(16, 0)", x -> x.as(16, 0));
        beyond(12, "as(0, 8)", x -> x.as(0, 8));
        beyond(13, "believe(16, 1)", x -> x.believe(16, 1));
        beyond(13, "believe(0, 21)", x -> x.believe(0, 21));
        beyond(14, "price(0, 0)", x -> x.price(0, 0));
        beyond(14, "price(0, 100)", x -> x.price(0, 100));
        beyond(14, "price(1, -1)", x -> x.price(1, -1));
        beyond(14, "price(1, 1000)", x -> x.price(1, 1000));
        beyond(14, "price(2, 5)", x -> x.price(2, 5));
    }

    private void beyondOfPlans() {
        beyond(15, "feed(.., 0)", x -> x.feed(0x31L, 0));
        beyond(15, "feed(.., 9)", x -> x.feed(0x31L, 9));
        beyond(16, "text(2)", x -> x.text(2));
        beyond(16, "text(-1)", x -> x.text(-1));
        beyond(17, "law(2, ..)", x -> x.law(2, 1, 1, 1, 1));
        beyond(18, "walked(0)", x -> x.walked(0));
        beyond(18, "walked(4096)", x -> x.walked(4096));
        beyond(19, "shift(0)", x -> x.shift(0));
        beyond(19, "shift(4097)", x -> x.shift(4097));
        beyond(20, "lots(8, 1)", x -> x.lots(8, 1));
        beyond(20, "lots(0, 10)", x -> x.lots(0, 10));
        beyond(20, "lots(0, -1)", x -> x.lots(0, -1));
        beyond(21, "ofShift(8, 0)", x -> x.ofShift(8, 0));
        beyond(21, "ofShift(0, 3)", x -> x.ofShift(0, 3));
        beyond(22, "odds(12, 0)", x -> x.odds(12, 0));
        beyond(22, "odds(0, 2)", x -> x.odds(0, 2));
        beyond(24, "coin(2)", x -> x.coin(2));
        beyond(25, "best(0, 0)", x -> x.best(0, 0));
        beyond(25, "best(6, 0)", x -> x.best(6, 0));
        beyond(25, "best(1, -2)", x -> x.best(1, -2));
        beyond(26, "plan(0)", x -> x.plan(0));
        beyond(26, "plan(6)", x -> x.plan(6));
        beyond(27, "days(0)", x -> x.days(0));
        beyond(27, "days(51)", x -> x.days(51));
        beyond(28, "find(-1, 0)", x -> x.find(-1, 0));
        beyond(28, "find(0, 3)", x -> x.find(0, 3));
    }

    private void beyondOfWhatWouldBe() {
        beyond(30, "telling(12, 0, 1, 0)", x -> x.telling(12, 0, 1, 0));
        beyond(30, "telling(0, 2, 1, 1)", x -> x.telling(0, 2, 1, 1));
        beyond(30, "telling(0, 0, 601, 1)", x -> x.telling(0, 0, 601, 1));
        beyond(31, "turn(-1)", x -> x.turn(-1));
        beyond(31, "turn(100000)", x -> x.turn(100000));
        beyond(32, "gate(8, 0)", x -> x.gate(8, 0));
        beyond(32, "gate(0, 100000)", x -> x.gate(0, 100000));
        beyond(33, "wrong(1001, 0)", x -> x.wrong(1001, 0));
        beyond(33, "wrong(5, 2)", x -> x.wrong(5, 2));
        beyond(34, "seen(12, 5)", x -> x.seen(12, 5));
        beyond(34, "seen(0, 101)", x -> x.seen(0, 101));
        beyond(35, "fair(2)", x -> x.fair(2));
    }

    private void beyondOfTheRest() {
        beyond(37, "voice(16, 0, 5)", x -> x.voice(16, 0, 5));
        beyond(37, "voice(0, 4, 5)", x -> x.voice(0, 4, 5));
        refused(38, "trace(40)", Due.NONE, x -> x.trace(40));
        refused(38, "trace(-1)", Due.NONE, x -> x.trace(-1));
        beyond(39, "sheet(4, 8, 5)", x -> x.sheet(4, 8, 5));
        beyond(39, "sheet(0, 9, 5)", x -> x.sheet(0, 9, 5));
        beyond(39, "sheet(0, 8, 41)", x -> x.sheet(0, 8, 41));
        refused(39, "sheet(0, 8, -1)", Due.STATE, x -> x.sheet(0, 8, -1));
        beyond(40, "put(4, 0, 5)", x -> x.put(4, 0, 5));
        beyond(41, "move(4, 0, 0, 0, 1)", x -> x.move(4, 0, 0, 0, 1));
        beyond(41, "move(0, 0, 4, 0, 1)", x -> x.move(0, 0, 4, 0, 1));
        beyond(42, "groups(4)", x -> x.groups(4));
        beyond(47, "count(13)", x -> x.count(13));
        beyond(48, "told(0)", x -> x.told(0));
        beyond(48, "told(6)", x -> x.told(6));
    }

    private void refusedByNothing() {
        refused(25, "best(1, -1)", Due.NONE, x -> x.best(1, -1));
        refused(26, "plan(5)", Due.NONE, x -> x.plan(5));
        refused(27, "days(1)", Due.STATE, x -> x.days(1));
        refused(28, "find(0, 0)", Due.NONE, x -> x.find(0, 0));
        refused(29, "average()", Due.NONE, x -> x.average());
        refused(35, "fair(0)", Due.NONE, x -> x.fair(0));
        refused(40, "put(0, 0, 5)", Due.NONE, x -> x.put(0, 0, 5));
        refused(41, "move(0, 0, 0, 0, 0)", Due.NONE, x -> x.move(0, 0, 0, 0, 0));
        refused(42, "groups(0)", Due.NONE, x -> x.groups(0));
        refused(44, "restore()", Due.NONE, x -> x.restore());
        beyond(46, "check(0)", x -> x.check(0));
    }

    private void refusedByOthers() {
        beyond(5, "extend(0, 2, 5)", x -> x.extend(0, 2, 5));
        refused(6, "ofLine(0, 3)", Due.NONE, x -> x.ofLine(0, 3));
        refused(9, "stop(0, 3, 0)", Due.NONE, x -> x.stop(0, 3, 0));
        refused(12, "as(0, 7)", Due.KIND, x -> x.as(0, 7));
        refused(19, "shift(5)", Due.STATE, x -> x.shift(1 | 8));
        refused(25, "best(1, 4)", Due.NONE, x -> x.best(1, 4));
        refused(28, "find(11, 0)", Due.NONE, x -> x.find(11, 0));
        refused(31, "turn(0)", Due.NONE, x -> x.turn(0));
        refused(34, "seen(4, 1)", Due.NONE, x -> x.seen(4, 1));
        refused(40, "put(3, 0, 5)", Due.NONE, x -> x.put(3, 0, 5));
        beyond(40, "put(0, 9, 5)", x -> x.put(0, 9, 5));
        beyond(40, "put(0, -1, 5)", x -> x.put(0, -1, 5));
        refused(41, "move(0, 0, 3, 0, 1)", Due.NONE, x -> x.move(0, 0, 3, 0, 1));
        refused(41, "move(0, 0, 1, 0, 1)", Due.KIND, x -> x.move(0, 0, 1, 0, 1));
        beyond(41, "move(0, 4, 0, 0, 6)", x -> x.move(0, 4, 0, 0, 6));
        beyond(41, "move(0, 0, 0, 4, 6)", x -> x.move(0, 0, 0, 4, 6));
        refused(42, "groups(3)", Due.NONE, x -> x.groups(3));
    }

    private void refusedByFull() {
        refused(2, "station()", Due.FULL, x -> x.station());
        refused(4, "line(0, 1, 5)", Due.FULL, x -> x.line(0, 1, 5));
        refused(5, "extend(0, 0, 5)", Due.FULL, x -> x.extend(0, 0, 5));
        refused(7, "train(0, 5, 0)", Due.FULL, x -> x.train(0, 5, 0));
        refused(10, "group(0, 1, 1, 1)", Due.FULL, x -> x.group(0, 1, 1, 1));
        refused(15, "feed(.., 1)", Due.FULL, x -> x.feed(0x31L, 1));
        refused(19, "shift(1)", Due.FULL, x -> x.shift(1));
        refused(27, "days(1)", Due.STATE, x -> x.days(1));
        refused(27, "days(50)", Due.STATE, x -> x.days(50));
        beyond(40, "put(0, 40, 5)", x -> x.put(0, 40, 5));
        beyond(41, "move(3, 0, 2, 0, 41)", x -> x.move(3, 0, 3, 0, 41));
        refused(45, "tell(5)", Due.FULL, x -> x.tell(5));
    }

    private void askedOfAll() {
        asked(17, "law(0, ..)", x -> x.law(0, 5, 6, 7, 8));
        asked(17, "law(1, ..)", x -> x.law(1, 5, 6, 7, 8));
        asked(23, "unpaid()", x -> x.unpaid());
        asked(24, "coin(0)", x -> x.coin(0));
        asked(33, "wrong(5, 1)", x -> x.wrong(5, 1));
        for (int what = 0; what <= 12; what++) {
            int each = what;
            asked(47, "count(" + what + ")", x -> x.count(each));
        }
        for (int k = 1; k <= 5; k++) {
            int each = k;
            asked(48, "told(" + k + ")", x -> x.told(each));
        }
    }

    private void askedOfSome() {
        asked(6, "ofLine(0, 1)", x -> x.ofLine(0, 1));
        asked(8, "ofTrain(0, 3)", x -> x.ofTrain(0, 3));
        asked(9, "stop(1, 1, 1)", x -> x.stop(1, 1, 1));
        asked(11, "ofGroup(3, 7)", x -> x.ofGroup(3, 7));
        asked(12, "as(3, 2)", x -> x.as(3, 2));
        asked(18, "walked(3)", x -> x.walked(3));
        asked(21, "ofShift(0, 2)", x -> x.ofShift(0, 2));
        asked(22, "odds(0, 1)", x -> x.odds(0, 1));
        asked(25, "best(5, -1)", x -> x.best(5, -1));
        asked(28, "find(0, 2)", x -> x.find(0, 2));
        asked(29, "average()", x -> x.average());
        asked(30, "telling(0, 0, 600, 1)", x -> x.telling(0, 0, 600, 1));
        asked(31, "turn(99999)", x -> x.turn(99999));
        asked(32, "gate(0, 5)", x -> x.gate(0, 5));
        asked(34, "seen(0, 1)", x -> x.seen(0, 1));
        asked(35, "fair(1)", x -> x.fair(1));
        asked(38, "trace(0)", x -> x.trace(0));
        asked(41, "move(0, 0, 0, 0, 5)", x -> x.move(0, 0, 0, 0, 5));
    }
}
