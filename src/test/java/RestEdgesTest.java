import java.util.Arrays;

/** Boundary cases of promises 36 to 48: draws, voices, sheets, images, what is told. */
public final class RestEdgesTest {
    private static final int LOW = -1000000000;

    private RestEdgesTest() {
    }

    public static void main(String[] args) {
        promise36();
        promise37();
        promise37ThatGoesRound();
        promise38();
        promise39();
        promise39OfRefusedOnes();
        promise40();
        promise40OfBits();
        promise41();
        promise41OfOrder();
        promise41OfPlaces();
        promise41OnItself();
        promise42();
        promise42OfFours();
        promise42OfRoom();
        promise43();
        promise44();
        promise44OfWhatCameLater();
        promise44OfTheLastDay();
        promise45();
        promise46();
        promise46OfMany();
        promise47();
        promise47OfTheMost();
        promise48();
        promise48OfEach();
        Due.end();
    }

    private static void promise36() {
        Due.promise(36);
        CoatsByLot x = new CoatsByLot();
        int was = 1;
        for (int z : new int[] {Edge.MIN, Edge.MAX, 0, -1, LOW, LOW - 1, LOW - 2, LOW - 3, LOW - 4, LOW - 5, 1}) {
            Due.due("seed(" + z + ")", x.seed(z), was);
            Due.due("z", x.count(12), z);
            was = z;
        }
        for (int k = 1; k <= 5; k++) {
            Due.due("any number is no ERROR: told(" + k + ")", x.told(k), 0);
        }
    }

    private static CoatsByLot withGroups(int groups) {
        CoatsByLot x = Edge.with(2, 1, 1);
        for (int i = 0; i < groups; i++) {
            x.group(100 * (i % 8), 1, 1 + i, 1);
        }
        return x;
    }

    private static void promise37() {
        Due.promise(37);
        Edge.bounds("group", () -> withGroups(3), 0, 2, (x, v) -> x.voice(v, 0, 0));
        Edge.bounds("group, when there are 16", () -> withGroups(16), 0, 15, (x, v) -> x.voice(v, 3, 0));
        Edge.bounds("act", () -> withGroups(1), 0, 3, (x, v) -> x.voice(0, v, 0));
        CoatsByLot x = withGroups(1);
        for (int k = 1; k <= 5; k++) {
            Due.due("goes(" + (LOW - k) + ")", x.voice(0, 0, LOW - k), LOW - k);
            Due.due("any number is no ERROR: told(" + k + ")", x.told(k), 0);
        }
    }

    /** GROUP 0 to 7, one of each KIND, and 999 of them: n is the KIND, too. */
    private static CoatsByLot withKinds() {
        CoatsByLot x = Edge.with(2, 1, 1);
        for (int kind = 0; kind < 8; kind++) {
            x.group(100 * kind, 1, 999, 1);
        }
        return x;
    }

    private static void promise37ThatGoesRound() {
        CoatsByLot x = withKinds();
        Due.due("RIDER goes", x.voice(0, 0, Edge.MAX), Edge.MAX);
        Due.due("PAYING goes round", x.voice(1, 0, Edge.MAX), Edge.MIN);
        Due.due("RIDER weighs round", x.voice(0, 1, Edge.MAX), -2);
        Due.due("RIDER weighs to 0", x.voice(0, 1, Edge.MIN), 0);
        Due.due("RIDER tells round", x.voice(0, 2, Edge.MIN), Edge.MAX - 998);
        Due.due("RIDER pays", x.voice(0, 3, Edge.MIN), Edge.MAX - 998);
        Due.due("PAYING pays", x.voice(1, 3, Edge.MAX), (0 ^ Edge.MAX - 999) + 1);
        Due.due("WEIGHING weighs", x.voice(2, 1, Edge.MAX), (Edge.MAX + 2) * 2 - (1 - 999));
        Due.due("READING tells", x.voice(3, 2, Edge.MIN), Edge.MIN + 999);
        Due.due("READING tells what stays below 0", x.voice(3, 2, Edge.MIN + 999), Edge.MIN);
        Due.due("SHORT goes round", x.voice(4, 0, Edge.MAX), (Edge.MIN + 3) * 3);
        Due.due("SHORT weighs round", x.voice(4, 1, Edge.MAX), (Edge.MIN + 4) * 3 * 2 - (1 - 999));
        Due.due("CAUGHT goes round", x.voice(5, 0, Edge.MAX), Edge.MIN + 4 ^ 999);
        Due.due("LATE pays", x.voice(6, 3, 0), 2 + 6 - ((6 * 2 ^ 0 - 999) + 1));
        Due.due("SPARED goes round", x.voice(7, 0, Edge.MAX), (Edge.MIN + 6 ^ 999) + 7);
        Due.due("SPARED tells round", x.voice(7, 2, Edge.MIN), (Edge.MAX - 998) * 5);
    }

    private static void promise38() {
        Due.promise(38);
        CoatsByLot x = withKinds();
        for (int i : new int[] {Edge.MIN, -1, 0, 1, 39, 40, Edge.MAX}) {
            Due.due("no voice() yet: trace(" + i + ")", x.trace(i), Due.NONE);
        }
        x.voice(0, 0, 5);
        Due.due("the only one", x.trace(0), 10);
        for (int i : new int[] {Edge.MIN, -1, 1, 39, 40, Edge.MAX}) {
            Due.due("of one: trace(" + i + ")", x.trace(i), Due.NONE);
        }
        x.voice(3, 3, 5);
        Due.due("how many of the longest", x.count(11), 8);
        Due.due("its last one", x.trace(7), 12);
        Due.due("behind its last one", x.trace(8), Due.NONE);
        x.voice(0, 4, 5);
        x.voice(8, 0, 5);
        Due.due("a refused one leaves it: it", x.trace(7), 12);
        x.voice(0, 1, 5);
        Due.due("how many of a shorter one", x.count(11), 2);
        Due.due("the latest alone: its last one", x.trace(1), 10);
        Due.due("the latest alone: behind its last one", x.trace(2), Due.NONE);
        Due.due("told(1)", x.told(1), 2);
    }

    private static void promise39() {
        Due.promise(39);
        Edge.bounds("sheet", CoatsByLot::new, 0, 3, (x, v) -> x.sheet(v, 8, 1));
        Edge.bounds("sheet, of 0 bits", CoatsByLot::new, 0, 3, (x, v) -> x.sheet(v, 0, 1));
        for (int bits = -33; bits <= 65; bits++) {
            boolean as = bits == 0 || bits == 8 || bits == 16 || bits == 32;
            Due.due("bits " + bits, new CoatsByLot().sheet(0, bits, 1), as ? 1 : Due.BEYOND);
            Due.due("bits " + bits + ", n 0", new CoatsByLot().sheet(3, bits, 0), as ? 1 : Due.BEYOND);
        }
        Edge.beyond("bits", CoatsByLot::new, (x, v) -> x.sheet(0, v, 1), Edge.MIN, Edge.MAX);
        for (int bits : new int[] {8, 16, 32}) {
            Edge.taken("n", CoatsByLot::new, (x, v) -> x.sheet(0, bits, v), 0, 1, 40);
            Edge.beyond("n", CoatsByLot::new, (x, v) -> x.sheet(0, bits, v), 41, Edge.MAX);
            for (int n : new int[] {Edge.MIN, -41, -1}) {
                Due.due("STATE of n " + n, new CoatsByLot().sheet(0, bits, n), Due.STATE);
                Edge.beyond("BEYOND ahead of STATE: sheet", CoatsByLot::new, (x, v) -> x.sheet(v, bits, n), -1, 4);
                Edge.beyond("BEYOND ahead of STATE: bits", CoatsByLot::new, (x, v) -> x.sheet(0, v, n), -1, 1, 64);
            }
        }
        for (int n : new int[] {Edge.MIN, -1, 0, 40, 41, Edge.MAX}) {
            Due.due("0 bits, n " + n + " doesn't matter", new CoatsByLot().sheet(0, 0, n), 1);
        }
    }

    /** How many numbers a SHEET has; -1, if it is missing. */
    private static int size(CoatsByLot x, int sheet) {
        for (int n = 40; n >= 0; n--) {
            if (x.move(sheet, 0, sheet, 0, n) == n) {
                return n;
            }
        }
        return -1;
    }

    private static void promise39OfRefusedOnes() {
        for (int n = 0; n <= 40; n += 20) {
            CoatsByLot x = new CoatsByLot();
            x.sheet(1, 16, n);
            x.sheet(1, 8, -1);
            x.sheet(1, 8, 41);
            x.sheet(1, 9, 5);
            Due.due("how many there are behind refused ones", size(x, 1), n);
            x.sheet(2, 16, 1);
            Due.due("bits behind refused ones", x.move(1, 0, 2, 0, 0), 0);
        }
        CoatsByLot x = Edge.with(2, 1, 2);
        x.sheet(0, 16, 40);
        fill(x, 0, 1, 1, 7, 1);
        x.sheet(0, 16, 41);
        Due.due("numbers behind a refused one", x.groups(0), 1);
        Due.due("one of like bits and size, all 0", x.sheet(0, 16, 40), 1);
        Due.due("which gives none", x.groups(0), 0);
        for (int i = 1; i < 4; i++) {
            x.put(0, i, 1);
        }
        Due.due("number 0, by which it gives one", x.groups(0), 1);
        Due.due("which is 0: its TRAIN", x.ofGroup(1, 1), 0);
        fill(x, 0, 0, 1, 7, 1);
        x.sheet(0, 0, 40);
        Due.due("missing", x.groups(0), Due.NONE);
        Due.due("how many a missing one has", size(x, 0), -1);
        x.sheet(0, 16, 4);
        Due.due("one that was missing, all 0", x.groups(0), 0);
        Due.due("its size", size(x, 0), 4);
        Due.due("others are still missing", size(x, 1), -1);
    }

    private static void fill(CoatsByLot x, int sheet, int... numbers) {
        for (int i = 0; i < numbers.length; i++) {
            x.put(sheet, i, numbers[i]);
        }
    }

    private static CoatsByLot withSheet(int bits, int n) {
        CoatsByLot x = Edge.with(2, 1, 1);
        x.sheet(0, bits, n);
        return x;
    }

    private static void promise40() {
        Due.promise(40);
        Edge.Maker four = () -> {
            CoatsByLot x = new CoatsByLot();
            for (int sheet = 0; sheet < 4; sheet++) {
                x.sheet(sheet, 8, 2);
            }
            return x;
        };
        Edge.bounds("sheet", four, 0, 3, (x, v) -> x.put(v, 0, 5));
        for (int n : new int[] {1, 2, 40}) {
            Edge.bounds("i of " + n, () -> withSheet(8, n), 0, n - 1, (x, v) -> x.put(0, v, 5));
        }
        Edge.beyond("i of 0", () -> withSheet(32, 0), (x, v) -> x.put(0, v, 5), Edge.MIN, -1, 0, 1, Edge.MAX);
        Edge.beyond("BEYOND of the SHEET ahead of all: it", CoatsByLot::new, (x, v) -> x.put(v, -1, 5), -1, 4);
        for (int i : new int[] {Edge.MIN, -1, 0, 40, Edge.MAX}) {
            Due.due("NONE ahead of BEYOND of i " + i, new CoatsByLot().put(3, i, 5), Due.NONE);
        }
        CoatsByLot x = withSheet(16, 4);
        for (int i = 0; i < 4; i++) {
            Due.due("put() at " + i, x.put(0, i, i == 2 ? 7 : i % 2), 1);
        }
        x.put(0, 4, 999);
        x.put(0, -1, 999);
        Due.due("numbers behind refused ones", x.groups(0), 1);
    }

    /** MANY of the GROUP that comes with a number put as MANY; BEYOND if none comes. */
    private static int putAsMany(int bits, int v) {
        CoatsByLot x = withSheet(bits, 4);
        fill(x, 0, 0, 1, v, 1);
        return x.groups(0) == 1 ? x.ofGroup(0, 4) : Due.BEYOND;
    }

    private static void promise40OfBits() {
        int[] taken8 = {1, 127, 256 + 1, 256 + 127, -255, -256 + 127, Edge.MIN + 5, 65536 + 9};
        int[] lowest8 = {1, 127, 1, 127, 1, 127, 5, 9};
        for (int i = 0; i < taken8.length; i++) {
            Due.due("8 bits of " + taken8[i], putAsMany(8, taken8[i]), lowest8[i]);
        }
        for (int v : new int[] {128, 129, 255, 256, -1, -128, -129 + 1, Edge.MAX, Edge.MIN}) {
            Due.due("8 bits of " + v + ", 0 or below", putAsMany(8, v), Due.BEYOND);
        }
        int[] taken16 = {1, 128, 255, 999, 65536 + 999, -65536 + 1, Edge.MIN + 5};
        int[] lowest16 = {1, 128, 255, 999, 999, 1, 5};
        for (int i = 0; i < taken16.length; i++) {
            Due.due("16 bits of " + taken16[i], putAsMany(16, taken16[i]), lowest16[i]);
        }
        for (int v : new int[] {1000, 32768, 32768 + 1, 65535, 65536, -1, Edge.MAX, Edge.MIN}) {
            Due.due("16 bits of " + v + ", not as told", putAsMany(16, v), Due.BEYOND);
        }
        Due.due("32 bits of 999", putAsMany(32, 999), 999);
        for (int v : new int[] {1000, 65536 + 1, Edge.MIN + 1, Edge.MIN, Edge.MAX, -1}) {
            Due.due("32 bits of " + v + ", as it is", putAsMany(32, v), Due.BEYOND);
        }
    }

    /** SHEETS 0 of 8 bits with 4 numbers, 1 of 8 bits with 2, 2 of 16 bits with 4; 3 is missing. */
    private static CoatsByLot withSheets() {
        CoatsByLot x = Edge.with(2, 1, 1);
        x.sheet(0, 8, 4);
        x.sheet(1, 8, 2);
        x.sheet(2, 16, 4);
        return x;
    }

    private static void promise41() {
        Due.promise(41);
        Edge.Maker some = () -> withSheets();
        Edge.beyond("sheet", some, (x, v) -> x.move(v, 0, 0, 0, 1), Edge.MIN, -1, 4, Edge.MAX);
        Edge.beyond("other", some, (x, v) -> x.move(0, 0, v, 0, 1), Edge.MIN, -1, 4, Edge.MAX);
        Edge.beyond("n of 4 and 2", some, (x, v) -> x.move(0, 0, 1, 0, v), Edge.MIN, -1, 3, 4, 5, Edge.MAX);
        Edge.beyond("n of 2 and 4", some, (x, v) -> x.move(1, 0, 0, 0, v), Edge.MIN, -1, 3, 4, 5, Edge.MAX);
        Edge.beyond("n of 4 and 4", some, (x, v) -> x.move(0, 0, 0, 0, v), Edge.MIN, -1, 5, Edge.MAX);
        Edge.bounds("i, of 2 numbers", some, 0, 2, (x, v) -> x.move(0, v, 1, 0, 2));
        Edge.bounds("j, of 2 numbers", some, 0, 2, (x, v) -> x.move(1, 0, 0, v, 2));
        Edge.bounds("i, of 1 number", some, 0, 3, (x, v) -> x.move(0, v, 1, 1, 1));
        Edge.bounds("j, of 1 number", some, 0, 1, (x, v) -> x.move(0, 3, 1, v, 1));
        Edge.bounds("i, of no number", some, 0, 4, (x, v) -> x.move(0, v, 1, 2, 0));
        Edge.bounds("j, of no number", some, 0, 2, (x, v) -> x.move(0, 4, 1, v, 0));
        for (int n = 0; n <= 2; n++) {
            Due.due("move() of " + n, some.make().move(0, 0, 1, 0, n), n);
        }
        // sums of i, j and n that go round
        CoatsByLot x = some.make();
        Due.due("i and n above an int", x.move(0, Edge.MAX, 1, 0, 1), Due.BEYOND);
        Due.due("i and n both the most", x.move(0, Edge.MAX, 1, Edge.MAX, Edge.MAX), Due.BEYOND);
        Due.due("j and n above an int", x.move(0, 0, 1, Edge.MAX, 2), Due.BEYOND);
        Due.due("i 1 and the most n", x.move(0, 1, 1, 1, Edge.MAX), Due.BEYOND);
        Due.due("i the least and n the most", x.move(0, Edge.MIN, 1, 0, Edge.MAX), Due.BEYOND);
    }

    private static void promise41OfOrder() {
        CoatsByLot x = withSheets();
        Due.due("no such SHEET ahead of one missing: it", x.move(4, 0, 3, 0, 1), Due.BEYOND);
        Due.due("no such other one ahead of one missing: it", x.move(3, 0, 4, 0, 1), Due.BEYOND);
        Due.due("no such SHEET ahead of places: it", x.move(-1, -1, 0, -1, -1), Due.BEYOND);
        Due.due("missing", x.move(3, 0, 0, 0, 1), Due.NONE);
        Due.due("the other one is missing", x.move(0, 0, 3, 0, 1), Due.NONE);
        Due.due("both are missing", x.move(3, 0, 3, 0, 0), Due.NONE);
        Due.due("missing, ahead of unlike bits and of places: it", x.move(2, -1, 3, -1, -1), Due.NONE);
        Due.due("missing, ahead of places: it", x.move(3, -1, 0, 9, -1), Due.NONE);
        Due.due("unlike bits", x.move(0, 0, 2, 0, 1), Due.KIND);
        Due.due("unlike bits of no number", x.move(0, 0, 2, 0, 0), Due.KIND);
        for (int v : new int[] {Edge.MIN, -1, 5, Edge.MAX}) {
            Due.due("unlike bits ahead of i", x.move(0, v, 2, 0, 1), Due.KIND);
            Due.due("unlike bits ahead of j", x.move(0, 0, 2, v, 1), Due.KIND);
            Due.due("unlike bits ahead of n", x.move(0, 0, 2, 0, v), Due.KIND);
        }
        x.sheet(3, 32, 4);
        Due.due("16 and 32 bits", x.move(2, 0, 3, 0, 1), Due.KIND);
        Due.due("32 and 8 bits", x.move(3, 0, 0, 0, 1), Due.KIND);
        x.sheet(1, 8, 0);
        Due.due("no number to an empty one", x.move(0, 0, 1, 0, 0), 0);
        Due.due("one number to an empty one", x.move(0, 0, 1, 0, 1), Due.BEYOND);
        Due.due("one number from an empty one", x.move(1, 0, 0, 0, 1), Due.BEYOND);
    }

    /** SHEET 0 as three GROUPS with MANY 1, 2, 3; SHEET 1 of as many numbers, all 0. */
    private static CoatsByLot withFours() {
        CoatsByLot x = Edge.with(2, 1, 1);
        x.sheet(0, 16, 12);
        x.sheet(1, 16, 12);
        fill(x, 0, 0, 1, 1, 1, 0, 1, 2, 1, 0, 1, 3, 1);
        return x;
    }

    /** MANY of the GROUPS that come from a SHEET, as digits. */
    private static int manys(CoatsByLot x, int sheet) {
        int first = x.count(4);
        int came = x.groups(sheet);
        int digits = 0;
        for (int i = 0; i < came; i++) {
            digits = digits * 10 + x.ofGroup(first + i, 4);
        }
        return digits;
    }

    private static void promise41OfPlaces() {
        CoatsByLot x = withFours();
        x.move(0, 0, 1, 0, 12);
        Due.due("all of them came: MANY", manys(x, 1), 123);
        Due.due("and stay where they were: MANY", manys(x, 0), 123);
        x = withFours();
        x.move(0, 4, 1, 0, 8);
        Due.due("from number 4 on: MANY", manys(x, 1), 23);
        x = withFours();
        x.move(0, 0, 1, 4, 8);
        Due.due("to number 4 on, behind what isn't as told: MANY", manys(x, 1), 0);
        x.move(0, 8, 1, 0, 4);
        Due.due("and ahead of it: MANY", manys(x, 1), 312);
        x = withFours();
        x.move(0, 0, 1, 0, 12);
        x.move(0, 2, 1, 10, 1);
        Due.due("one number alone: MANY", manys(x, 1), 121);
        x.move(0, 2, 1, 6, 0);
        Due.due("no number: MANY", manys(x, 1), 121);
        x.move(0, 0, 1, 1, 12);
        x.move(0, 1, 1, 0, 12);
        Due.due("refused ones change nothing: MANY", manys(x, 1), 121);
    }

    private static void promise41OnItself() {
        CoatsByLot x = withFours();
        Due.due("up by 4", x.move(0, 0, 0, 4, 8), 8);
        Due.due("as they all were: MANY", manys(x, 0), 112);
        x = withFours();
        Due.due("down by 4", x.move(0, 4, 0, 0, 8), 8);
        Due.due("as they all were: MANY", manys(x, 0), 233);
        x = withFours();
        Due.due("to where they are", x.move(0, 0, 0, 0, 12), 12);
        Due.due("as they all were: MANY", manys(x, 0), 123);
        x = withFours();
        Due.due("from the last number", x.move(0, 10, 0, 2, 2), 2);
        Due.due("as they all were: MANY", manys(x, 0), 323);
    }

    private static void promise42() {
        Due.promise(42);
        Edge.Maker four = () -> {
            CoatsByLot x = Edge.with(2, 1, 1);
            for (int sheet = 0; sheet < 4; sheet++) {
                x.sheet(sheet, 16, 4);
                fill(x, sheet, 0, 1, 1 + sheet, 1);
            }
            return x;
        };
        Edge.bounds("sheet", four, 0, 3, (x, v) -> x.groups(v));
        for (int sheet = 0; sheet < 4; sheet++) {
            CoatsByLot x = four.make();
            Due.due("a four of SHEET " + sheet, x.groups(sheet), 1);
            Due.due("its MANY", x.ofGroup(0, 4), 1 + sheet);
            Due.due("a missing SHEET " + sheet, Edge.with(2, 1, 1).groups(sheet), Due.NONE);
        }
        for (int n = 0; n <= 40; n++) {
            CoatsByLot x = withSheet(8, n);
            for (int at = 0; at < n; at++) {
                x.put(0, at, at % 4 == 0 ? 0 : 1);
            }
            Due.due("of " + n + " numbers", x.groups(0), n / 4);
            Due.due("how many there are", x.count(4), n / 4);
        }
    }

    private static void four(String what, int due, int... numbers) {
        CoatsByLot x = withSheet(16, 12);
        fill(x, 0, 100, 1, 7, 12);
        for (int i = 0; i < 4; i++) {
            x.put(0, 4 + i, numbers[i]);
        }
        for (int i = 0; i < 4; i++) {
            x.put(0, 8 + i, 1);
        }
        x.put(0, 8, 0);
        Due.due("a four with " + what, x.groups(0), due);
        Due.due("how many came with " + what, x.count(4), due);
        for (int k = 1; k <= 5; k++) {
            Due.due("no ERROR is told with " + what, x.told(k), 0);
        }
    }

    private static void promise42OfFours() {
        CoatsByLot y = Edge.with(2, 1, 12);
        y.sheet(0, 16, 8);
        fill(y, 0, 711, 45, 999, 89, 405, 13, 27, 36);
        Due.due("fours of unlike numbers", y.groups(0), 2);
        int[][] due = {{7, 11, 4, 5, 999, 89}, {4, 5, 1, 3, 27, 36}};
        for (int group = 0; group < 2; group++) {
            for (int what = 0; what < 6; what++) {
                Due.due("ofGroup(" + group + ", " + what + ")", y.ofGroup(group, what), due[group][what]);
            }
        }
        four("all least", 3, 0, 1, 1, 1);
        four("all most", 3, 700, 45, 999, 99);
        four("kt -1", 1, -1, 1, 1, 1);
        four("no such TRAIN", 1, 1, 1, 1, 1);
        four("no such KIND", 1, 800, 1, 1, 1);
        four("ft -1", 1, 0, -1, 1, 1);
        four("ft 0", 1, 0, 0, 1, 1);
        four("ft 6", 1, 0, 6, 1, 1);
        four("ft 55", 1, 0, 55, 1, 1);
        four("MANY 0", 1, 0, 1, 0, 1);
        four("MANY 1000", 1, 0, 1, 1000, 1);
        four("MANY -1", 1, 0, 1, -1, 1);
        four("pq 0", 1, 0, 1, 1, 0);
        four("pq 21", 1, 0, 1, 1, 21);
        four("pq 109", 1, 0, 1, 1, 109);
        four("pq -1", 1, 0, 1, 1, -1);
        CoatsByLot x = new CoatsByLot();
        x.sheet(0, 16, 4);
        fill(x, 0, 0, 1, 1, 1);
        Due.due("no TRAINS", x.groups(0), 0);
    }

    private static void promise42OfRoom() {
        for (int ahead = 12; ahead <= 16; ahead++) {
            CoatsByLot x = withGroups(ahead);
            x.sheet(0, 16, 12);
            fill(x, 0, 100, 1, 7, 12, 0, 1, 8, 1, 700, 45, 9, 99);
            int due = Math.min(3, 16 - ahead);
            Due.due("room for " + (16 - ahead), x.groups(0), due);
            Due.due("how many there are", x.count(4), ahead + due);
            Due.due("no room is no ERROR: told(4)", x.told(4), 0);
            if (due > 0) {
                Due.due("the first that came", x.ofGroup(ahead, 4), 7);
                Due.due("the last that came", x.ofGroup(ahead + due - 1, 4), 6 + due);
                Due.due("its UNTIL", x.ofGroup(ahead + due - 1, 6), 0);
            }
        }
    }

    private static void promise43() {
        Due.promise(43);
        CoatsByLot x = new CoatsByLot();
        for (int often = 1; often <= 100; often++) {
            Due.due("image()", x.image(), often);
            x.restore();
        }
        x = withGroups(1);
        x.sheet(0, 8, 2);
        x.voice(0, 1, 5);
        x.told(9);
        x.image();
        x.sheet(0, 0, 0);
        x.sheet(1, 8, 3);
        x.voice(0, 0, 5);
        x.told(9);
        x.restore();
        Due.due("what told() tells", x.told(1), 2);
        Due.due("BODIES in THE TRACE", x.count(11), 1);
        Due.due("THE TRACE", x.trace(0), 10);
        Due.due("a SHEET that is missing now", size(x, 0), -1);
        Due.due("a SHEET that was missing then", size(x, 1), 3);
        Due.due("how often", x.image(), 2);
    }

    private static void promise44() {
        Due.promise(44);
        CoatsByLot x = Edge.withLots(1, 1);
        Due.due("no IMAGE", x.restore(), Due.NONE);
        Due.due("no IMAGE, once more", x.restore(), Due.NONE);
        x.days(3);
        Due.due("TODAY, which nothing restored", x.count(0), 3);
        x.image();
        x.days(50);
        Due.due("restore()", x.restore(), 3);
        Due.due("restore(), with nothing changed", x.restore(), 3);
        x.days(7);
        Due.due("restore() once more: the IMAGE stays", x.restore(), 3);
        x.days(1);
        x.image();
        x.days(1);
        Due.due("restore() of the newer one", x.restore(), 4);
        CoatsByLot y = new CoatsByLot();
        y.image();
        y.station();
        y.tell(1);
        y.feed(0L, 8);
        y.seed(-1);
        Due.due("restore() of an IMAGE of nothing", y.restore(), 0);
        for (int what = 0; what <= 12; what++) {
            Due.due("count(" + what + ") then", y.count(what), what == 12 ? 1 : 0);
        }
        Due.due("a STATION then", y.station(), 0);
    }

    private static void promise44OfWhatCameLater() {
        CoatsByLot x = Edge.with(2, 1, 1);
        x.image();
        x.station();
        x.walk(0, 2, 7);
        x.walk(0, 1, 8);
        x.extend(0, 2, 9);
        x.line(1, 0, 10);
        x.train(0, 500, 1);
        x.shift(1);
        x.shift(1);
        x.lots(0, 9);
        x.lots(1, 9);
        x.group(500, 1, 5, 19);
        x.days(2);
        x.restore();
        x.station();
        Due.due("WALK of a STATION that comes again", x.walk(0, 2, 1), -1);
        Due.due("WALK that there was not", x.walk(0, 1, 1), -1);
        Due.due("STATIONS of a LINE", x.ofLine(0, -1), 2);
        Due.due("a LINE that comes again", x.line(0, 2, 30), 1);
        Due.due("its STATIONS", x.ofLine(1, -1), 2);
        Due.due("a TRAIN that comes again", x.train(1, 7, 0), 1);
        Due.due("its END", x.ofTrain(1, 3), 37);
        Due.due("a SHIFT that comes again", x.shift(2), 0);
        Due.due("its LOTS", x.ofShift(0, 1), 0);
        Due.due("its TRAINS", x.ofShift(0, 0), 2);
        Due.due("its FINDS", x.ofShift(0, 2), 0);
        Due.due("a GROUP that comes again", x.group(501, 2, 6, 12), 0);
        Due.due("its UNTIL", x.ofGroup(0, 6), 0);
        Due.due("its BELIEF", x.ofGroup(0, 5), 12);
        Due.due("PURSE", x.count(7), 0);
    }

    private static void promise44OfTheLastDay() {
        CoatsByLot x = Edge.withLots(1, 1);
        x.group(0, 1, 1, 1);
        x.image();
        Edge.pass(x, 399);
        Due.due("restore() from DAY 399", x.restore(), 0);
        Due.due("DAYS can go again", x.days(50), 50);
        Edge.pass(x, 349);
        x.image();
        x.price(1, 1);
        Due.due("restore() to DAY 399", x.restore(), 399);
        Due.due("no DAY can go", x.days(1), Due.STATE);
        Due.due("the last FIND", x.find(59, 1), 1);
        Due.due("FINDS", x.count(6), 60);
    }

    private static void promise45() {
        Due.promise(45);
        CoatsByLot x = Edge.withLots(1, 1);
        int[] any = {Edge.MIN, Edge.MAX, 0, -1, LOW - 1};
        for (int i = 1; i <= 20; i++) {
            Due.due("tell() " + i, x.tell(any[i % any.length]), i);
        }
        Due.due("tell() of 20", x.tell(0), Due.FULL);
        Due.due("tell() of 20, once more", x.tell(0), Due.FULL);
        Due.due("how many wait", x.count(10), 20);
        Due.due("told(4)", x.told(4), 2);
        x.check(0);
        Due.due("tell() when none wait", x.tell(0), 1);
    }

    private static int checked(CoatsByLot x, int shift, int... numbers) {
        for (int number : numbers) {
            x.tell(number);
        }
        return x.check(shift);
    }

    private static void promise46() {
        Due.promise(46);
        Edge.bounds("shift", () -> Edge.withLots(3, 1, 1, 1), 0, 2, (x, v) -> x.check(v));
        Edge.bounds("shift, of 8", () -> Edge.withLots(1, 1, 1, 1, 1, 1, 1, 1, 1), 0, 7, (x, v) -> x.check(v));
        for (int shift : new int[] {Edge.MIN, -1, 2, Edge.MAX}) {
            CoatsByLot x = Edge.withLots(2, 1, 1);
            Due.due("no SHIFT " + shift, checked(x, shift, 0), Due.BEYOND);
            Due.due("none wait then, too", x.count(10), 0);
            Due.due("so that the next ones are the first", checked(x, 1, 1), 0);
        }
        CoatsByLot x = Edge.withLots(2, 1, 1);
        Due.due("none wait: the first one is missing", x.check(0), 1);
        Due.due("the only one", checked(x, 0, 0), 0);
        Due.due("none wait then", x.count(10), 0);
        Due.due("another TRAIN", checked(x, 0, 1), 1);
        Due.due("no TRAIN", checked(x, 0, Edge.MIN), 1);
        Due.due("no TRAIN, either", checked(x, 0, Edge.MAX), 1);
        Due.due("one too many", checked(x, 0, 0, 0), 2);
        Due.due("one too many, of which the first is wrong", checked(x, 0, 1, 0), 1);
        Due.due("20, of which the second is too many", checked(x, 0, new int[20]), 2);
        Due.due("none of them wait then", x.count(10), 0);
        Due.due("no ERROR, that: told(1)", x.told(1), 0);
    }

    private static void promise46OfMany() {
        CoatsByLot x = Edge.with(2, 1, 0);
        // the higher its number the earlier it starts
        for (int train = 0; train < 12; train++) {
            x.train(0, 100 - train, 1 - train % 2);
        }
        Due.due("all twelve, the last one first", x.shift(4095), 0);
        int[] order = {11, 10, 9, 8, 7, 6, 5, 4, 3, 2, 1, 0};
        Due.due("in order", checked(x, 0, order), 0);
        for (int place = 0; place < 12; place++) {
            int[] wrong = order.clone();
            wrong[place] = 12;
            Due.due("wrong at " + place, checked(x, 0, wrong), 1 + place);
            Due.due("missing from " + place, checked(x, 0, Arrays.copyOf(order, place)), 1 + place);
        }
        Due.due("a thirteenth one", checked(x, 0, Arrays.copyOf(order, 13)), 13);
        Due.due("eight more", checked(x, 0, Arrays.copyOf(order, 20)), 13);
        Due.due("by numbers", checked(x, 0, 0, 1, 2, 3, 4, 5, 6, 7, 8, 9, 10, 11), 1);
    }

    private static void promise47() {
        Due.promise(47);
        Edge.bounds("what", CoatsByLot::new, 0, 12, (x, v) -> x.count(v));
        CoatsByLot x = new CoatsByLot();
        for (int k = 1; k <= 5; k++) {
            x.seed(LOW - k);
            Due.due("z " + (LOW - k), x.count(12), LOW - k);
            Due.due("any number is no ERROR: told(" + k + ")", x.told(k), 0);
        }
    }

    private static void promise47OfTheMost() {
        CoatsByLot x = Edge.with(8, 4, 12);
        for (int i = 0; i < 16; i++) {
            x.group(0, 1, 999, 1);
        }
        for (int i = 0; i < 8; i++) {
            x.shift(1);
            x.lots(i, 9);
        }
        x.price(1, 999);
        Edge.pass(x, 399);
        Due.feed(x, "1".repeat(50));
        for (int i = 0; i < 20; i++) {
            x.tell(i);
        }
        x.seed(Edge.MIN);
        int[] most = {399, 8, 4, 12, 16, 8, 60, 1999999999, 72, 50, 20, 0, Edge.MIN};
        for (int what = 0; what < most.length; what++) {
            Due.due("the most: count(" + what + ")", x.count(what), most[what]);
        }
        x.station();
        x.line(0, 1, 1);
        x.train(0, 0, 0);
        x.group(0, 1, 1, 1);
        x.shift(1);
        x.days(1);
        x.feed(0L, 1);
        x.tell(0);
        for (int what = 0; what < most.length; what++) {
            Due.due("one more is refused: count(" + what + ")", x.count(what), most[what]);
        }
        Due.due("FULL, seven times: told(4)", x.told(4), 7);
        Due.due("STATE, once: told(3)", x.told(3), 1);
    }

    private static void promise48() {
        Due.promise(48);
        Edge.bounds("k", CoatsByLot::new, 1, 5, (x, v) -> x.told(v));
        CoatsByLot x = new CoatsByLot();
        for (int k : new int[] {Edge.MIN, -1, 0, 6, 7, Edge.MAX}) {
            x.told(k);
        }
        Due.due("another k is counted, too: told(1)", x.told(1), 6);
        Due.due("asking is not: told(1)", x.told(1), 6);
        for (int k = 2; k <= 5; k++) {
            Due.due("no other is: told(" + k + ")", x.told(k), 0);
        }
    }

    /** Each kind of ERROR is counted for itself. */
    private static void promise48OfEach() {
        CoatsByLot x = Edge.with(8, 1, 1);
        x.group(0, 1, 1, 1);
        for (int often = 1; often <= 3; often++) {
            x.coin(2);
            x.average();
            x.days(1);
            x.station();
            x.as(0, 7);
            for (int k = 1; k <= 5; k++) {
                Due.due("told(" + k + ")", x.told(k), often);
            }
        }
        x.wrong(5, -1);
        Due.due("BEYOND as a long is counted, too: told(1)", x.told(1), 4);
        x.text(0);
        x.law(0, LOW - 2, 0, 0, 0);
        x.walked(1);
        Due.due("a FAULT isn't: told(1)", x.told(1), 4);
    }
}
