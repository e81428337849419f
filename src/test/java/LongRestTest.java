/** Promises 36 to 48 in runs of 512 calls on one object: draws, voices, sheets, images, what is told. */
public final class LongRestTest {
    private LongRestTest() {
    }

    public static void main(String[] args) {
        promise36();
        promise37();
        promise38();
        promise39();
        promise40();
        promise41();
        promise42();
        promise43();
        promise44();
        promise45();
        promise46();
        promise47();
        promise48();
        Due.end();
    }

    private static void promise36() {
        Run run = new Run(36);
        int z = 1;
        for (int i = 0; run.left() > 0; i++) {
            int next = -1000000006 + i * i * i;
            run.due(z, x -> x.seed(next));
            z = next;
        }
        run.end();
    }

    /** GROUP 0 to 7, one of each KIND: n is the KIND, too. */
    private static void buildKinds(Run run) {
        run.build(2, 1);
        for (int i = 0; i < 8; i++) {
            int kind = i;
            run.due(kind, x -> x.group(100 * kind, 1, 10 + kind, 1));
        }
    }

    private static void promise37() {
        Run run = new Run(37);
        buildKinds(run);
        for (int i = 0; run.left() > 0; i++) {
            int group = i % 8;
            int act = i / 8 % 4;
            int with = i * 87654321;
            run.due(RestTest.voice(group, 10 + group, act, with), x -> x.voice(group, act, with));
        }
        run.end();
    }

    private static void promise38() {
        Run run = new Run(38);
        buildKinds(run);
        int[][] traces = {
            {13, 11, 10, 12}, {20, 13, 11, 10, 12}, {13, 30, 11, 10, 12, 12}, {13, 30, 11, 10, 40, 12, 40, 12},
            {13, 51, 30, 11, 50, 10, 12, 12}, {13, 11, 60, 10, 12}, {70, 10, 20, 13, 11, 10, 12},
            {13, 11, 80, 60, 10, 81, 12}
        };
        for (int i = 0; run.left() > 0; i++) {
            int group = i % 8;
            int[] trace = traces[group];
            int place = i / 8 % trace.length;
            run.due(RestTest.voice(group, 10 + group, 3, place), x -> x.voice(group, 3, place));
            run.due(trace.length, x -> x.count(11));
            run.due(trace[place], x -> x.trace(place));
            run.due(Due.NONE, x -> x.trace(trace.length));
        }
        run.end();
    }

    private static void promise39() {
        Run run = new Run(39);
        for (int i = 0; run.left() > 2; i++) {
            int sheet = i % 4;
            int bits = new int[] {8, 16, 0, 32, 8}[i % 5];
            int n = i % 41;
            run.due(1, x -> x.sheet(sheet, bits, n));
            run.due(bits == 0 ? Due.NONE : n == 0 ? Due.BEYOND : 1, x -> x.put(sheet, n - 1, 5));
            run.due(bits == 0 ? Due.NONE : Due.BEYOND, x -> x.put(sheet, n, 5));
        }
        run.due(Due.STATE, x -> x.sheet(0, 8, -1));
        run.due(Due.BEYOND, x -> x.sheet(0, 8, 41));
        run.end();
    }

    /** One number of a four becomes another each time: whether a GROUP comes from it tells what it became. */
    private static void promise40() {
        Run run = new Run(40);
        run.build(2, 1);
        run.due(1, x -> x.sheet(0, 16, 4));
        run.due(1, x -> x.put(0, 1, 1));
        run.due(1, x -> x.put(0, 3, 1));
        run.due(1, x -> x.image());
        for (int i = 0; run.left() > 0; i++) {
            int v = i * 12345 - 99 * i * i;
            int lowest = (short) v;
            run.due(1, x -> x.put(0, 2, v));
            run.due(lowest >= 1 && lowest <= 999 ? 1 : 0, x -> x.groups(0));
            run.due(lowest >= 1 && lowest <= 999 ? lowest : Due.BEYOND, x -> x.ofGroup(0, 4));
            run.due(0, x -> x.restore());
        }
        run.end();
    }

    /** Ten fours with MANY 1 to 10, moved about on their own SHEET: the IMAGE takes GROUPS back, but not those. */
    private static void promise41() {
        Run run = new Run(41);
        run.build(2, 1);
        run.due(1, x -> x.sheet(0, 16, 40));
        int[] many = new int[10];
        for (int i = 0; i < 10; i++) {
            int at = 4 * i;
            many[i] = 1 + i;
            run.due(1, x -> x.put(0, at, 0));
            run.due(1, x -> x.put(0, at + 1, 1));
            run.due(1, x -> x.put(0, at + 2, 1 + at / 4));
            run.due(1, x -> x.put(0, at + 3, 1));
        }
        run.due(1, x -> x.image());
        for (int i = 0; run.left() >= 6; i++) {
            int from = i * 3 % 10;
            int to = i * 7 % 10;
            int n = Math.min(1 + i % 4, 10 - Math.max(from, to));
            run.due(4 * n, x -> x.move(0, 4 * from, 0, 4 * to, 4 * n));
            System.arraycopy(many, from, many, to, n);
            run.due(10, x -> x.groups(0));
            for (int place : new int[] {from, to, i % 10}) {
                run.due(many[place], x -> x.ofGroup(place, 4));
            }
            run.due(0, x -> x.restore());
        }
        run.due(run.left(), 0, x -> x.count(4));
        run.end();
    }

    private static void promise42() {
        Run run = new Run(42);
        run.build(2, 1);
        run.due(1, x -> x.sheet(0, 8, 40));
        for (int i = 0; i < 10; i++) {
            int at = 4 * i;
            run.due(1, x -> x.put(0, at + 1, 45));
            run.due(1, x -> x.put(0, at + 2, 127));
            run.due(1, x -> x.put(0, at + 3, 99));
        }
        run.due(1, x -> x.image());
        while (run.left() > 0) {
            run.due(10, x -> x.groups(0));
            run.due(6, x -> x.groups(0));
            run.due(0, x -> x.groups(0));
            run.due(0, x -> x.restore());
        }
        run.end();
    }

    private static void promise43() {
        Run run = new Run(43);
        for (int i = 1; run.left() > 2; i++) {
            run.due(i, x -> x.image());
        }
        run.due(0, x -> x.restore());
        run.due(511, x -> x.image());
        run.end();
    }

    /** Each DAY is gone through twice, since the IMAGE takes the first time back. */
    private static void promise44() {
        Run run = new Run(44);
        run.build(2, 1);
        run.due(0, x -> x.shift(1));
        run.due(0, x -> x.lots(0, 1));
        run.due(0, x -> x.group(0, 1, 5, 1));
        for (int i = 0; run.left() > 0; i++) {
            int day = i;
            run.due(day + 1, x -> x.image());
            run.due(10, x -> x.days(2));
            run.due(day, x -> x.restore());
            run.due(5, x -> x.days(1));
            run.due(300 * (day + 1), x -> x.count(7));
        }
        run.end();
    }

    private static void promise45() {
        Run run = new Run(45);
        run.build(2, 1);
        run.due(0, x -> x.shift(1));
        while (run.left() >= 22) {
            for (int i = 1; i <= 20; i++) {
                run.due(i, x -> x.tell(0));
            }
            run.due(Due.FULL, x -> x.tell(0));
            // the first one is its only TRAIN, the second one is too many
            run.due(2, x -> x.check(0));
        }
        run.due(run.left(), 23, x -> x.told(4));
        run.end();
    }

    private static void promise46() {
        Run run = new Run(46);
        run.build(2, 12);
        run.due(0, x -> x.shift(4095));
        for (int i = 0; run.left() >= 14; i++) {
            int right = i % 13;
            for (int train = 0; train < right; train++) {
                int each = train;
                run.due(train + 1, x -> x.tell(each));
            }
            if (i / 13 % 2 == 1) {
                run.due(right + 1, x -> x.tell(12));
                run.due(1 + right, x -> x.check(0));
            } else {
                run.due(right == 12 ? 0 : 1 + right, x -> x.check(0));
            }
        }
        run.due(run.left(), 1, x -> x.check(0));
        run.end();
    }

    private static void promise47() {
        Run run = new Run(47);
        run.build(8, 12);
        run.due(0, x -> x.group(111, 1, 7, 1));
        run.due(0, x -> x.shift(1));
        run.due(0, x -> x.lots(0, 9));
        run.due(0, x -> x.days(50));
        run.due(7, x -> x.feed(0L, 7));
        run.due(1, x -> x.tell(5));
        run.due(5, x -> x.voice(0, 0, 5));
        int z = 1;
        for (int day = 0; day < 50; day++) {
            z = z * 1103515245 + 12345;
        }
        int[] due = {50, 8, 1, 12, 1, 1, 50, 0, 9, 7, 1, 1, z, Due.BEYOND};
        for (int i = 0; run.left() > 0; i++) {
            int what = i % 14;
            run.due(due[what], x -> x.count(what));
        }
        run.end();
    }

    private static void promise48() {
        Run run = new Run(48);
        run.build(8, 1);
        run.due(0, x -> x.group(0, 1, 1, 1));
        for (int i = 1; run.left() > 10; i++) {
            run.due(Due.BEYOND, x -> x.coin(2));
            run.due(Due.NONE, x -> x.average());
            run.due(Due.STATE, x -> x.days(1));
            run.due(Due.FULL, x -> x.station());
            run.due(Due.KIND, x -> x.as(0, 7));
            for (int k = 1; k <= 5; k++) {
                int each = k;
                run.due(i, x -> x.told(each));
            }
        }
        run.due(run.left(), Due.BEYOND, x -> x.told(6));
        run.end();
    }
}
