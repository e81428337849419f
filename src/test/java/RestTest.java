/** Promises 36 to 48: draws, voices, sheets, images, what is told. */
public final class RestTest {
    private RestTest() {
    }

    public static void main(String[] args) {
        promise36();
        promise37();
        promise38();
        promise39();
        promise40();
        promise41();
        promise42();
        promise43and44();
        promise45();
        promise46();
        promise47();
        promise48();
        Due.end();
    }

    private static void promise36() {
        Due.promise(36);
        CoatsByLot x = new CoatsByLot();
        Due.due("z at first", x.seed(Integer.MIN_VALUE), 1);
        Due.due("z", x.seed(Due.BEYOND), Integer.MIN_VALUE);
        Due.due("any number", x.seed(7), Due.BEYOND);
        Due.due("which is no ERROR", x.told(1), 0);
        Due.due("z now", x.count(12), 7);
    }

    private static CoatsByLot withKinds() {
        CoatsByLot x = Due.withTrains();
        for (int kind = 0; kind < 8; kind++) {
            x.group(100 * kind, 1, 100 + kind, 1);
        }
        return x;
    }

    private static void promise37() {
        Due.promise(37);
        CoatsByLot x = withKinds();
        // number n and MANY 100 + n of each KIND n
        for (int kind = 0; kind < 8; kind++) {
            for (int at : new int[] {0, 5, -77, Integer.MAX_VALUE, Integer.MIN_VALUE}) {
                for (int act = 0; act < 4; act++) {
                    int due = voice(kind, 100 + kind, act, at);
                    Due.due(kind + ", act " + act + " of " + at, x.voice(kind, act, at), due);
                }
            }
        }
        Due.due("no group", x.voice(8, 0, 0), Due.BEYOND);
        Due.due("group -1", x.voice(-1, 0, 0), Due.BEYOND);
        Due.due("act 4", x.voice(0, 4, 0), Due.BEYOND);
        Due.due("act -1", x.voice(0, -1, 0), Due.BEYOND);
        Due.due("any number", x.voice(0, 0, Due.NONE), Due.NONE);
        Due.due("which is no ERROR", x.told(2), 0);
    }

    /** What a GROUP says whose number is that of its KIND. */
    static int voice(int n, int m, int act, int x) {
        switch (act) {
            case 0:
                return goes(n, m, x);
            case 1:
                return weighs(n, m, x);
            case 2:
                return tells(n, m, x);
            default:
                int pays = weighs(n, m, x) ^ tells(n, m, x);
                int paying = n == 1 || n == 6 ? pays + 1 : pays;
                return n == 6 ? goes(6, m, 2) - paying : paying;
        }
    }

    private static int goes(int n, int m, int x) {
        int rider = x + n;
        switch (n) {
            case 4:
                return rider * 3;
            case 5:
                return rider ^ m;
            case 7:
                return (rider ^ m) + n;
            default:
                return rider;
        }
    }

    private static int tells(int n, int m, int x) {
        return n == 3 ? m - x : n == 7 ? (x - m) * 5 : x - m;
    }

    private static int weighs(int n, int m, int x) {
        switch (n) {
            case 2:
            case 3:
                return goes(n, m, x) * 2 - tells(n, m, 1);
            case 4:
                return goes(n, m, x + 1) * 2 - tells(n, m, 1);
            default:
                return goes(n, m, x) * 2;
        }
    }

    private static void trace(CoatsByLot x, int group, int act, int... due) {
        x.voice(group, act, 3);
        Due.due("BODIES of " + group + ", " + act, x.count(11), due.length);
        for (int i = 0; i < due.length; i++) {
            Due.due("BODY " + i + " of " + group + ", " + act, x.trace(i), due[i]);
        }
        Due.due("BODY after the last of " + group + ", " + act, x.trace(due.length), Due.NONE);
    }

    private static void promise38() {
        Due.promise(38);
        CoatsByLot x = withKinds();
        Due.due("no TRACE yet", x.trace(0), Due.NONE);
        Due.due("trace -1", x.trace(-1), Due.NONE);
        trace(x, 0, 0, 10);
        trace(x, 0, 1, 11, 10);
        trace(x, 0, 2, 12);
        trace(x, 0, 3, 13, 11, 10, 12);
        trace(x, 1, 3, 20, 13, 11, 10, 12);
        trace(x, 2, 1, 30, 11, 10, 12);
        trace(x, 3, 3, 13, 30, 11, 10, 40, 12, 40, 12);
        trace(x, 4, 1, 51, 30, 11, 50, 10, 12);
        trace(x, 4, 3, 13, 51, 30, 11, 50, 10, 12, 12);
        trace(x, 5, 1, 11, 60, 10);
        trace(x, 6, 3, 70, 10, 20, 13, 11, 10, 12);
        trace(x, 7, 3, 13, 11, 80, 60, 10, 81, 12);
        x.voice(9, 0, 0);
        Due.due("an ERROR leaves THE TRACE", x.trace(6), 12);
        x.image();
        x.voice(0, 0, 0);
        x.restore();
        Due.due("no IMAGE keeps THE TRACE", x.count(11), 1);
    }

    private static void promise39() {
        Due.promise(39);
        CoatsByLot x = new CoatsByLot();
        Due.due("sheet 4", x.sheet(4, 8, 1), Due.BEYOND);
        Due.due("sheet -1", x.sheet(-1, 8, 1), Due.BEYOND);
        Due.due("7 bits", x.sheet(0, 7, 1), Due.BEYOND);
        Due.due("64 bits", x.sheet(0, 64, -1), Due.BEYOND);
        Due.due("no sheet, ahead of STATE", x.sheet(4, 8, -1), Due.BEYOND);
        Due.due("n -1", x.sheet(0, 8, -1), Due.STATE);
        Due.due("n 41", x.sheet(0, 8, 41), Due.BEYOND);
        Due.due("still missing", x.put(0, 0, 1), Due.NONE);
        Due.due("n 40", x.sheet(0, 8, 40), 1);
        Due.due("n 0", x.sheet(1, 16, 0), 1);
        Due.due("n 1", x.sheet(3, 32, 1), 1);
        Due.due("number 39", x.put(0, 39, 1), 1);
        Due.due("number 0 of none", x.put(1, 0, 1), Due.BEYOND);
        Due.due("missing, n -1", x.sheet(0, 0, -1), 1);
        Due.due("missing now", x.put(0, 0, 1), Due.NONE);
        Due.due("missing, n 99", x.sheet(2, 0, 99), 1);
        allZero();
    }

    private static void allZero() {
        CoatsByLot x = Due.withTrains();
        x.sheet(0, 16, 4);
        int[] told = {100, 1, 5, 12};
        for (int i = 0; i < 4; i++) {
            x.put(0, i, told[i]);
        }
        Due.due("a group from it", x.groups(0), 1);
        x.sheet(0, 16, 4);
        Due.due("all are 0", x.groups(0), 0);
    }

    /** What stands at a place of a SHEET, as MANY of a GROUP that comes from there; 0 if none does. */
    private static int read(CoatsByLot x, int sheet, int i) {
        int bits = sheet == 0 ? 8 : sheet == 1 ? 16 : 32;
        x.image();
        x.sheet(3, bits, 4);
        x.put(3, 1, 1);
        x.put(3, 3, 1);
        x.move(sheet, i, 3, 2, 1);
        int group = x.count(4);
        int many = x.groups(3) == 1 ? x.ofGroup(group, 4) : 0;
        x.restore();
        return many;
    }

    private static void promise40() {
        Due.promise(40);
        CoatsByLot x = Due.withTrains();
        x.sheet(0, 8, 2);
        x.sheet(1, 16, 2);
        x.sheet(2, 32, 2);
        Due.due("put", x.put(0, 1, 127), 1);
        Due.due("127 in 8 bits", read(x, 0, 1), 127);
        x.put(0, 1, 128);
        Due.due("128 in 8 bits has a sign", read(x, 0, 1), 0);
        x.put(0, 1, 256 + 5);
        Due.due("the lowest 8 bits", read(x, 0, 1), 5);
        x.put(0, 1, -250);
        Due.due("the lowest 8 bits of one below 0", read(x, 0, 1), 6);
        x.put(1, 0, 999);
        Due.due("999 in 16 bits", read(x, 1, 0), 999);
        x.put(1, 0, 65536 + 998);
        Due.due("the lowest 16 bits", read(x, 1, 0), 998);
        x.put(1, 0, 40000);
        Due.due("40000 in 16 bits has a sign", read(x, 1, 0), 0);
        x.put(2, 0, 65536 + 998);
        Due.due("32 bits", read(x, 2, 0), 0);
        x.put(2, 0, 998);
        Due.due("998 in 32 bits", read(x, 2, 0), 998);
        Due.due("its neighbour", read(x, 2, 1), 0);
        Due.due("no sheet", x.put(4, 0, 1), Due.BEYOND);
        Due.due("sheet -1", x.put(-1, 0, 1), Due.BEYOND);
        x.sheet(3, 0, 0);
        Due.due("missing, ahead of the number", x.put(3, -1, 1), Due.NONE);
        Due.due("number -1", x.put(0, -1, 1), Due.BEYOND);
        Due.due("number 2", x.put(0, 2, 1), Due.BEYOND);
    }

    private static void promise41() {
        Due.promise(41);
        CoatsByLot x = Due.withTrains();
        x.sheet(2, 32, 6);
        for (int i = 0; i < 6; i++) {
            x.put(2, i, 10 + i);
        }
        Due.due("onto itself, up", x.move(2, 0, 2, 2, 4), 4);
        for (int i = 0; i < 6; i++) {
            Due.due("moved up " + i, read(x, 2, i), i < 2 ? 10 + i : 8 + i);
        }
        Due.due("onto itself, down", x.move(2, 1, 2, 0, 5), 5);
        int[] down = {11, 10, 11, 12, 13, 13};
        for (int i = 0; i < 6; i++) {
            Due.due("moved down " + i, read(x, 2, i), down[i]);
        }
        x.sheet(0, 32, 3);
        Due.due("to another", x.move(2, 3, 0, 1, 2), 2);
        x.sheet(2, 32, 3);
        x.move(0, 0, 2, 0, 3);
        Due.due("came 0", read(x, 2, 0), 0);
        Due.due("came 1", read(x, 2, 1), 12);
        Due.due("came 2", read(x, 2, 2), 13);
        moveErrors();
    }

    private static void moveErrors() {
        CoatsByLot x = new CoatsByLot();
        x.sheet(0, 8, 4);
        x.sheet(1, 8, 2);
        x.sheet(2, 16, 4);
        Due.due("no sheet", x.move(4, 0, 0, 0, 1), Due.BEYOND);
        Due.due("no other", x.move(0, 0, -1, 0, 1), Due.BEYOND);
        Due.due("no sheet, ahead of missing", x.move(3, 0, 4, 0, 1), Due.BEYOND);
        Due.due("missing", x.move(3, 0, 2, 0, 1), Due.NONE);
        Due.due("the other is missing", x.move(2, 0, 3, -1, 1), Due.NONE);
        Due.due("unlike bits, ahead of numbers", x.move(0, -1, 2, 0, 1), Due.KIND);
        Due.due("n -1", x.move(0, 0, 1, 0, -1), Due.BEYOND);
        Due.due("i -1", x.move(0, -1, 1, 0, 1), Due.BEYOND);
        Due.due("j -1", x.move(0, 0, 1, -1, 1), Due.BEYOND);
        Due.due("n 3 of 2", x.move(0, 0, 1, 0, 3), Due.BEYOND);
        Due.due("n 5 of 4", x.move(0, 0, 0, 0, 5), Due.BEYOND);
        Due.due("i too far", x.move(0, 3, 1, 0, 2), Due.BEYOND);
        Due.due("i max", x.move(0, Integer.MAX_VALUE, 1, 0, 2), Due.BEYOND);
        Due.due("j max", x.move(0, 0, 1, Integer.MAX_VALUE, 1), Due.BEYOND);
        Due.due("n max", x.move(0, 1, 1, 1, Integer.MAX_VALUE), Due.BEYOND);
        Due.due("n min", x.move(0, 1, 1, 1, Integer.MIN_VALUE), Due.BEYOND);
        Due.due("all", x.move(1, 0, 0, 2, 2), 2);
        Due.due("none, at the end", x.move(1, 2, 0, 4, 0), 0);
    }

    private static void fill(CoatsByLot x, int sheet, int... told) {
        for (int i = 0; i < told.length; i++) {
            x.put(sheet, i, told[i]);
        }
    }

    private static void promise42() {
        Due.promise(42);
        CoatsByLot x = Due.withTrains();
        x.sheet(0, 16, 11);
        fill(x, 0, 704, 15, 999, 29, 100, 1, 5, 12, 0, 1, 7);
        Due.due("two and one that isn't whole", x.groups(0), 2);
        Due.due("KIND", x.ofGroup(0, 0), 7);
        Due.due("TRAIN", x.ofGroup(0, 1), 4);
        Due.due("from", x.ofGroup(0, 2), 1);
        Due.due("to", x.ofGroup(0, 3), 5);
        Due.due("MANY", x.ofGroup(0, 4), 999);
        Due.due("BELIEF", x.ofGroup(1, 5), 12);
        x.put(0, 2, 0);
        Due.due("the first isn't as told", x.groups(0), 0);
        Due.due("which is no ERROR", x.told(1), 0);
        x.sheet(1, 8, 40);
        for (int i = 0; i < 10; i++) {
            x.put(1, 4 * i, 100);
            x.put(1, 4 * i + 1, 45);
            x.put(1, 4 * i + 2, 127);
            x.put(1, 4 * i + 3, 99);
        }
        Due.due("ten", x.groups(1), 10);
        Due.due("no room for all", x.groups(1), 4);
        Due.due("no room", x.groups(1), 0);
        Due.due("GROUPS", x.count(4), 16);
        Due.due("no FULL", x.told(4), 0);
        Due.due("no sheet", x.groups(4), Due.BEYOND);
        Due.due("sheet -1", x.groups(-1), Due.BEYOND);
        Due.due("missing", x.groups(3), Due.NONE);
        x.sheet(3, 32, 0);
        Due.due("an empty one", x.groups(3), 0);
    }

    private static void promise43and44() {
        Due.promise(44);
        CoatsByLot x = Due.withTrains();
        Due.due("no IMAGE", x.restore(), Due.NONE);
        x.shift(1);
        x.lots(0, 1);
        x.group(500, 1, 9, 12);
        x.walk(0, 1, 7);
        Due.text(x, 0, "f+1");
        Due.text(x, 1, "n+2");
        Due.feed(x, "123");
        x.tell(4);
        x.seed(77);
        x.days(5);
        int z = x.count(12);
        Due.due("image", x.image(), 1);
        change(x);
        Due.due("restore", x.restore(), 5);
        int[] due = {5, 4, 2, 5, 1, 1, 5, 540, 1, 3, 1, 2, z};
        for (int what = 0; what < due.length; what++) {
            Due.due("count(" + what + ") after restore", x.count(what), due[what]);
        }
        Due.due("UNTIL", x.ofGroup(0, 6), 30);
        Due.due("BELIEF", x.ofGroup(0, 5), 12);
        Due.due("WALK", x.walk(0, 1, 8), 7);
        Due.due("LINE", x.ofLine(0, -1), 3);
        Due.due("FARE", x.price(0, 1), 3);
        Due.due("FINE", x.price(1, 1), 60);
        Due.due("WEIGH", x.law(0, 5, 0, 0, 0), 6);
        Due.due("SHIFT RULE", x.law(1, 5, 0, 0, 0), 7);
        Due.due("THE TAPE", x.text(0), 1);
        Due.due("as it was", x.law(0, 5, 0, 0, 0), 123);
        Due.due("what told() tells stays", x.told(2), 1);
        Due.due("SHEETS stay", x.put(2, 4, 1), 1);
        Due.due("how often", x.image(), 2);
        x.price(0, 50);
        x.restore();
        Due.due("the newer IMAGE", x.price(0, 2), 1);
        x.restore();
        Due.due("which stays", x.price(0, 2), 1);
        Due.due("and is how often", x.image(), 3);
        textsTakenAway();
        numbersAreKept();
    }

    private static void numbersAreKept() {
        CoatsByLot x = Due.withTrains();
        x.shift(1);
        x.tell(0);
        x.image();
        x.check(0);
        x.tell(7);
        x.restore();
        Due.due("the numbers that waited", x.check(0), 0);
    }

    private static void change(CoatsByLot x) {
        x.station();
        x.extend(0, 3, 1);
        x.line(0, 1, 1);
        x.train(0, 7, 0);
        x.group(0, 1, 1, 1);
        x.believe(0, 99);
        x.walk(0, 1, 9);
        x.shift(2);
        x.lots(0, 9);
        x.price(0, 33);
        x.price(1, 34);
        x.text(0);
        Due.text(x, 1, "n");
        x.tell(1);
        x.days(30);
        x.seed(0);
        x.voice(0, 0, 0);
        x.sheet(2, 8, 5);
    }

    private static void textsTakenAway() {
        CoatsByLot x = new CoatsByLot();
        x.image();
        Due.text(x, 0, "0");
        Due.text(x, 1, "0");
        x.restore();
        Due.due("no WEIGH again", x.law(0, 0, 0, 0, 0), 1);
        Due.due("no SHIFT RULE again", x.law(1, 0, 0, 0, 0), 1);
    }

    private static void promise45() {
        Due.promise(45);
        CoatsByLot x = new CoatsByLot();
        for (int i = 1; i <= 20; i++) {
            Due.due("tell " + i, x.tell(-i), i);
        }
        Due.due("tell 21", x.tell(0), Due.FULL);
        Due.due("they wait", x.count(10), 20);
    }

    private static int check(CoatsByLot x, int shift, int... numbers) {
        for (int number : numbers) {
            x.tell(number);
        }
        return x.check(shift);
    }

    private static void promise46() {
        Due.promise(46);
        CoatsByLot x = Due.withStations(2);
        x.line(0, 1, 5);
        x.train(0, 40, 0);
        x.train(0, 24, 1);
        x.train(0, 10, 0);
        x.shift(7);
        x.shift(2);
        Due.due("in order", check(x, 0, 2, 1, 0), 0);
        Due.due("none waits then", x.count(10), 0);
        Due.due("none", check(x, 0), 1);
        Due.due("one is missing", check(x, 0, 2, 1), 3);
        Due.due("one too many", check(x, 0, 2, 1, 0, 0), 4);
        Due.due("by numbers", check(x, 0, 0, 1, 2), 1);
        Due.due("the second is wrong", check(x, 0, 2, 0, 1), 2);
        Due.due("the third is wrong", check(x, 0, 2, 1, -1), 3);
        Due.due("a shift of one", check(x, 1, 1), 0);
        Due.due("no shift", check(x, 2, 1, 2), Due.BEYOND);
        Due.due("none waits then, too", x.count(10), 0);
        Due.due("shift -1", check(x, -1), Due.BEYOND);
    }

    private static void promise47() {
        Due.promise(47);
        CoatsByLot x = Due.withTrains();
        x.shift(1);
        x.shift(2);
        x.lots(0, 4);
        x.group(0, 1, 2, 1);
        x.days(3);
        x.feed(0, 7);
        x.tell(0);
        x.tell(0);
        x.voice(0, 1, 0);
        int found = 0;
        for (int i = 0; i < 3; i++) {
            found += x.find(i, 1);
        }
        x.seed(Due.STATE);
        int[] due = {3, 4, 2, 5, 1, 2, 3, 60 * found, 4, 7, 2, 2, Due.STATE};
        for (int what = 0; what < due.length; what++) {
            Due.due("count(" + what + ")", x.count(what), due[what]);
        }
        Due.due("count 13", x.count(13), Due.BEYOND);
        Due.due("count -1", x.count(-1), Due.BEYOND);
        Due.due("z is no ERROR", x.told(3), 0);
    }

    private static void promise48() {
        Due.promise(48);
        CoatsByLot x = Due.withTrains();
        Due.due("k 0", x.told(0), Due.BEYOND);
        Due.due("k 6", x.told(6), Due.BEYOND);
        Due.due("k min", x.told(Integer.MIN_VALUE), Due.BEYOND);
        Due.due("counted, too", x.told(1), 3);
        x.coin(5);
        x.wrong(-1, 0);
        Due.due("in longs, too", x.told(1), 5);
        x.average();
        Due.due("NONE", x.told(2), 1);
        x.days(1);
        Due.due("STATE", x.told(3), 1);
        for (int i = 0; i < 5; i++) {
            x.station();
        }
        Due.due("FULL", x.told(4), 1);
        x.group(0, 1, 1, 1);
        x.as(0, 1);
        Due.due("KIND", x.told(5), 1);
    }
}
