/** Promises 15 to 35 in runs of 512 calls on one object: TEXTS, SHIFTS, THE PLAN, DAYS, what would be. */
public final class LongPlansTest {
    private LongPlansTest() {
    }

    public static void main(String[] args) {
        promise15();
        promise16();
        promise17();
        promise18();
        promise19();
        promise20();
        promise21();
        promise22();
        promise23();
        promise24();
        promise25();
        promise27();
        promise28();
        promise29();
        promise30();
        promise31();
        promise32();
        promise33();
        promise34();
        promise35();
        Due.end();
    }

    private static void promise15() {
        Run run = new Run(15);
        int bytes = 0;
        for (int i = 0; run.left() > 0; i++) {
            int n = 1 + i % 8;
            int use = i / 16 % 2;
            if (i % 16 == 15) {
                run.due(-10, x -> x.text(use));
                bytes = 0;
            } else {
                run.due(bytes + n > 50 ? Due.FULL : bytes + n, x -> x.feed(0L, n));
                bytes += bytes + n > 50 ? 0 : n;
            }
        }
        run.end();
    }

    private static void promise16() {
        Run run = new Run(16);
        int given = 1;
        for (int i = 0; i < 128; i++) {
            boolean isFault = i % 3 == 2;
            String text = isFault ? "n+*" + i : "n*3+" + i;
            run.feed(text);
            run.due(text.length(), x -> x.count(9));
            run.due(isFault ? -12 : 1, x -> x.text(1));
            // one with a FAULT leaves the one ahead
            given = isFault ? given : 21 + i;
            run.due(given, x -> x.law(1, 7, 0, 0, 0));
        }
        run.end();
    }

    private static void promise17() {
        Run run = new Run(17);
        run.feed("f*q+g-p");
        run.due(1, x -> x.text(0));
        run.feed("n*l-g%b");
        run.due(1, x -> x.text(1));
        int z = 5;
        for (int i = 0; i < 254; i++) {
            z = z * 1103515245 + 12345;
            int a = z >> i % 32;
            int b = z * 7;
            int c = z ^ i;
            int d = i % 5 - 2;
            run.due(a * d + b - c, x -> x.law(0, a, b, c, d));
            run.due(a * b - (d == 0 ? 0 : c % d), x -> x.law(1, a, b, c, d));
        }
        run.end();
    }

    /** Of TRAINS as of Run's build(), where there is no WALK: each must start where the one ahead ends. */
    private static boolean isWalked(int set) {
        int ahead = -1;
        for (int train = 0; train < 12; train++) {
            if ((set & 1 << train) != 0) {
                if (ahead >= 0 && (train - ahead) % 2 == 0) {
                    return false;
                }
                ahead = train;
            }
        }
        return true;
    }

    private static void promise18() {
        Run run = new Run(18);
        run.build(2, 8);
        for (int i = 1; i < 256; i++) {
            int set = i;
            run.due(isWalked(set) ? 0 : 1, x -> x.walked(set));
        }
        run.feed("n<3");
        run.due(1, x -> x.text(1));
        for (int i = 1; run.left() > 0; i++) {
            int set = i;
            int due = Integer.bitCount(set) < 3 ? 0 : 2;
            run.due(isWalked(set) ? due : 1, x -> x.walked(set));
        }
        run.end();
    }

    private static void promise19() {
        Run run = new Run(19);
        run.build(2, 12);
        int shifts = 0;
        for (int i = 1; run.left() > 0; i++) {
            int set = i;
            int due = !isWalked(set) ? Due.STATE : shifts == 8 ? Due.FULL : shifts;
            run.due(due, x -> x.shift(set));
            shifts += due >= 0 ? 1 : 0;
        }
        run.end();
    }

    /** A SHIFT of each of so many TRAINS. */
    private static void buildShifts(Run run, int trains) {
        run.build(2, trains);
        for (int i = 0; i < trains; i++) {
            int shift = i;
            run.due(shift, x -> x.shift(1 << shift));
        }
    }

    private static void promise20() {
        Run run = new Run(20);
        buildShifts(run, 8);
        int[] lots = new int[8];
        for (int i = 0; run.left() > 0; i++) {
            int shift = i % 8;
            int v = i / 3 % 12 - 1;
            run.due(v < 0 || v > 9 ? Due.BEYOND : lots[shift], x -> x.lots(shift, v));
            lots[shift] = v < 0 || v > 9 ? lots[shift] : v;
        }
        run.end();
    }

    private static void promise21() {
        Run run = new Run(21);
        buildShifts(run, 2);
        run.due(0, x -> x.lots(1, 3));
        for (int day = 1; day <= 100; day++) {
            run.due(0, x -> x.days(1));
            run.due(Math.min(day, 60), x -> x.ofShift(1, 2));
            run.due(0, x -> x.ofShift(0, 2));
            run.due(3, x -> x.ofShift(1, 1));
            run.due(2, x -> x.ofShift(1, 0));
        }
        run.due(run.left(), 1, x -> x.ofShift(0, 0));
        run.end();
    }

    private static long part(long above, long below, int part) {
        return (part == 0 ? above : below) / Model.gcd(above, below);
    }

    private static void promise22() {
        Run run = new Run(22);
        buildShifts(run, 3);
        int[] lots = new int[3];
        for (int i = 0; run.left() > 2; i++) {
            int shift = i % 3;
            int v = i * 7 % 10;
            run.due(lots[shift], x -> x.lots(shift, v));
            lots[shift] = v;
            int all = Math.max(1, lots[0] + lots[1] + lots[2]);
            run.due(part(lots[i / 3 % 3], all, 0), oddsOf(i / 3 % 3, 0));
            run.due(part(lots[i / 3 % 3], all, 1), oddsOf(i / 3 % 3, 1));
        }
        run.due(run.left(), lots[0] + lots[1] + lots[2], x -> x.count(8));
        run.end();
    }

    private static Exam.Act oddsOf(int train, int part) {
        return x -> x.odds(train, part);
    }

    private static void promise23() {
        Run run = new Run(23);
        run.build(2, 1);
        run.due(60, x -> x.price(1, 6));
        run.due(0, x -> x.group(200, 1, 7, 1));
        run.due(1, x -> x.group(0, 1, 5, 1));
        int belief = 1;
        for (int i = 0; run.left() > 1; i++) {
            int q = 1 + i % 9;
            int p = i / 9 % (q + 1);
            run.due(belief, x -> x.believe(0, 10 * p + q));
            belief = 10 * p + q;
            // 3 * q is 6 * p or less
            run.due(q <= 2 * p ? 5 : 12, x -> x.unpaid());
        }
        run.due(2, x -> x.count(4));
        run.end();
    }

    private static void promise24() {
        Run run = new Run(24);
        buildShifts(run, 2);
        run.due(0, x -> x.group(0, 1, 7, 1));
        run.due(1, x -> x.group(101, 1, 5, 1));
        int[] lots = new int[2];
        for (int i = 0; run.left() > 2; i++) {
            int shift = i % 2;
            int v = i * 7 % 10;
            run.due(lots[shift], x -> x.lots(shift, v));
            lots[shift] = v;
            int all = Math.max(1, lots[0] + lots[1]);
            for (int part = 0; part < 2; part++) {
                int each = part;
                run.due(part(15L * all + 60 * 7 * lots[0], all, part), x -> x.coin(each));
            }
        }
        run.due(run.left(), Due.BEYOND, x -> x.coin(2));
        run.end();
    }

    /** How many LOTS of n a READING GROUP needs to pay with a FINE; more than n, if none are enough. */
    private static int needed(int n, int fine) {
        return fine == 0 ? n + 1 : (3 * n + fine - 1) / fine;
    }

    /**
     * Eight SHIFTS of a TRAIN each, with 1, 2, .. 8 READING on it: BEST gives the last ones what they need, and
     * what is left to the one ahead of those, where most are that don't pay.
     */
    private static void promise25() {
        Run run = new Run(25);
        buildShifts(run, 8);
        for (int i = 0; i < 8; i++) {
            int group = i;
            run.due(group, x -> x.group(300 + group, 1, 1 + group, 1));
        }
        int fine = 60;
        for (int next : new int[] {0, 1, 2, 3, 4, 6, 9, 12, 15, 999}) {
            run.due(fine, x -> x.price(1, next));
            fine = next;
            for (int n = 1; n <= 5; n++) {
                bestOf(run, n, fine);
            }
        }
        promise26(run, fine);
    }

    private static void bestOf(Run run, int n, int fine) {
        int need = needed(n, fine);
        int paying = n / need;
        int unpaid = (8 - paying) * (9 - paying) / 2;
        run.due(unpaid, x -> x.best(n, -1));
        for (int i = 0; i < 8; i++) {
            int shift = i;
            int left = i == 7 - paying ? n % need : 0;
            run.due(i > 7 - paying ? need : left, x -> x.best(n, shift));
        }
    }

    private static void promise26(Run run, int fine) {
        Due.promise(26);
        for (int i = 1; i <= 5; i++) {
            int n = i;
            int paying = n / needed(n, fine);
            int unpaid = (8 - paying) * (9 - paying) / 2;
            run.due(unpaid, x -> x.plan(n));
            run.due(unpaid, x -> x.unpaid());
            run.due(n, x -> x.count(8));
            run.due(1, x -> x.ofShift(7, 1));
            run.due(3 * (36 - unpaid), x -> x.coin(0));
        }
        run.end();
    }

    /** A year: 1 RIDER; 16 CAUGHT, FOUND each 30 DAYS; 32 SPARED, FOUND on the first two, then each 20 DAYS. */
    private static int foundOn(int day) {
        boolean isSpared = day < 2 || day > 20 && (day - 21) % 20 == 0;
        return 1 + (day % 30 == 0 ? 16 : 0) + (isSpared ? 32 : 0);
    }

    private static void promise27() {
        Run run = new Run(27);
        buildShifts(run, 1);
        run.due(0, x -> x.lots(0, 1));
        run.due(0, x -> x.group(0, 1, 1, 1));
        run.due(1, x -> x.group(500, 1, 16, 1));
        run.due(2, x -> x.group(700, 1, 32, 1));
        int found = 0;
        int right = 0;
        for (int day = 0; day < 399; day++) {
            run.due(foundOn(day), x -> x.days(1));
            found += foundOn(day);
            right += day < 60 ? foundOn(day) : 0;
        }
        run.due(Due.STATE, x -> x.days(1));
        for (int i = 0; i < 60; i++) {
            int day = i;
            run.due(foundOn(day), x -> x.find(day, 1));
        }
        run.due(399, x -> x.count(0));
        run.due(60 * found, x -> x.count(7));
        run.due(right / 60, x -> x.average());
        for (int i = 0; run.left() > 0; i++) {
            int day = i;
            run.due(foundOn(day), x -> x.find(day, 2));
        }
        run.end();
    }

    private static void promise28() {
        Run run = new Run(28);
        buildShifts(run, 2);
        run.due(0, x -> x.lots(0, 2));
        run.due(0, x -> x.lots(1, 3));
        run.due(0, x -> x.group(0, 1, 7, 1));
        run.due(1, x -> x.group(1, 1, 11, 1));
        int[] shifts = new int[60];
        int z = 1;
        for (int day = 0; day < 160; day++) {
            z = z * 1103515245 + 12345;
            int shift = (z >>> 8) % 5 < 2 ? 0 : 1;
            run.due(shift == 0 ? 7 : 11, x -> x.days(1));
            if (day < 60) {
                shifts[day] = shift;
            }
        }
        for (int i = 0; i < 60; i++) {
            int each = i;
            run.due(shifts[i], x -> x.find(each, 0));
            run.due(shifts[i] == 0 ? 7 : 11, x -> x.find(each, 1));
            // 7 * 5 / 2 and 11 * 5 / 3, cut
            run.due(shifts[i] == 0 ? 17 : 18, x -> x.find(each, 2));
        }
        for (int i = 60; run.left() > 0; i++) {
            int each = i;
            run.due(Due.NONE, x -> x.find(each, each % 3));
        }
        run.end();
    }

    private static void promise29() {
        Run run = new Run(29);
        buildShifts(run, 1);
        run.due(0, x -> x.lots(0, 1));
        int riding = 0;
        int right = 0;
        for (int i = 0; run.left() > 1; i++) {
            int group = i;
            if (i < 16) {
                run.due(group, x -> x.group(0, 1, 1 + group * group, 1));
                riding += 1 + group * group;
            }
            run.due(riding, x -> x.days(1));
            right += i < 60 ? riding : 0;
            run.due(right / Math.min(i + 1, 60), x -> x.average());
        }
        run.due(run.left(), 60, x -> x.count(6));
        run.end();
    }

    private static void promise30() {
        Run run = new Run(30);
        run.build(2, 12);
        for (int i = 0; i < 12; i++) {
            int group = i;
            run.due(group, x -> x.group(300 + group, 1, 1 + group, 1));
        }
        for (int i = 0; run.left() > 0; i++) {
            int train = i % 12;
            int l = i / 12 % 5;
            int h = l + i % 7;
            int set = 0;
            int unpaid = 12 * 13 / 2;
            for (int other = 0; other < 12; other++) {
                if (other != train && other - train >= l && other - train <= h) {
                    set |= 1 << other;
                    unpaid -= 1 + other;
                }
            }
            int what = i / 60 % 2;
            run.due(what == 0 ? set : unpaid, x -> x.telling(train, l, h, what));
        }
        run.end();
    }

    /** 1 RIDER, and 1 WEIGHING of each BELIEF 1 of 9 to 9 of 9: p of 9 pay from a FINE of 27 by p on. */
    private static void promise31() {
        Run run = new Run(31);
        run.build(2, 1);
        run.due(0, x -> x.group(0, 1, 1, 1));
        for (int i = 1; i <= 9; i++) {
            int p = i;
            run.due(p, x -> x.group(200, 1, 1, 10 * p + 9));
        }
        for (int i = 0; run.left() > 0; i++) {
            int most = i % 13 - 1;
            int due = most < 0 ? Due.BEYOND : most == 0 ? Due.NONE : most > 9 ? 0 : (27 + most - 1) / most;
            run.due(due, x -> x.turn(most));
        }
        run.end();
    }

    private static void promise32() {
        Run run = new Run(32);
        run.build(4, 2);
        run.due(3, x -> x.extend(0, 2, 1));
        for (int i = 0; i < 10; i++) {
            int group = i;
            run.due(group, x -> x.group(group / 5, 10 * (group % 5) + 5, 1 << group % 10, 1));
        }
        for (int i = 0; run.left() > 0; i++) {
            int station = i % 5;
            int cost = 200 * i;
            // TRAIN 0 is at 0, 1, 2, TRAIN 1 at 2, 1, 0; nobody's STOP is further on
            int many = station < 3 ? (1 << station) + (32 << 2 - station) : 0;
            run.due(station == 4 ? Due.BEYOND : 3 * many - cost, x -> x.gate(station, cost));
        }
        run.end();
    }

    private static void promise33() {
        Run run = new Run(33);
        buildShifts(run, 2);
        run.due(0, x -> x.group(100, 1, 30, 1));
        run.due(1, x -> x.group(101, 1, 7, 1));
        run.due(2, x -> x.group(0, 1, 500, 1));
        run.due(0, x -> x.lots(0, 1));
        run.due(0, x -> x.lots(1, 2));
        for (int i = 0; run.left() > 0; i++) {
            int e = 4 * i;
            int each = i % 2;
            run.due(e > 1000 ? Due.BEYOND : part(e * 44L, 3000, each), x -> x.wrong(e, each));
        }
        run.end();
    }

    private static int seenOf(int lots, int all, int hundredths) {
        long some = 1;
        long none = 1;
        for (int n = 1; n <= 8; n++) {
            some *= all;
            none *= all - lots;
            if (100 * (some - none) >= hundredths * some) {
                return n;
            }
        }
        return Due.NONE;
    }

    private static void promise34() {
        Run run = new Run(34);
        buildShifts(run, 2);
        run.due(0, x -> x.lots(0, 1));
        for (int i = 1; i <= 9; i++) {
            int lots = i;
            run.due(lots - 1, x -> x.lots(1, lots));
            for (int each = 0; each < 55; each++) {
                int train = each % 2;
                int hundredths = each * 2 - 4;
                boolean isBeyond = hundredths < 0 || hundredths > 100;
                int due = seenOf(train == 0 ? 1 : lots, 1 + lots, hundredths);
                run.due(isBeyond ? Due.BEYOND : due, x -> x.seen(train, hundredths));
            }
        }
        run.due(run.left(), 1, x -> x.seen(0, 0));
        run.end();
    }

    /** LINE 0 with 70 who pay and 30 who weigh, LINE 1 with 20 and 20. */
    private static void promise35() {
        Run run = new Run(35);
        run.build(2, 1);
        run.due(1, x -> x.line(1, 0, 1));
        run.due(1, x -> x.train(1, 0, 0));
        run.due(0, x -> x.group(200, 1, 30, 1));
        run.due(1, x -> x.group(201, 1, 20, 1));
        run.due(2, x -> x.group(100, 1, 70, 1));
        run.due(3, x -> x.group(101, 1, 20, 1));
        int[] belief = {1, 1};
        for (int i = 0; run.left() > 2; i++) {
            for (int group = 0; group < 2; group++) {
                int each = group;
                int next = i >> group & 1;
                run.due(belief[group], x -> x.believe(each, 10 * next + 1));
                belief[group] = 10 * next + 1;
            }
            int first = belief[0] == 11 ? 0 : 30;
            int second = belief[1] == 11 ? 0 : 50;
            run.due(second > first ? 1 : 0, x -> x.fair(0));
            run.due(Math.max(first, second), x -> x.fair(1));
        }
        run.due(run.left(), Due.BEYOND, x -> x.fair(2));
        run.end();
    }
}
