/** Promises 1 to 14 in runs of 512 calls on one object: what holds for the first call holds for the last one. */
public final class LongRoadsTest {
    private LongRoadsTest() {
    }

    public static void main(String[] args) {
        promise1();
        promise2();
        promise3();
        promise4();
        promise5();
        promise6();
        promise7();
        promise8();
        promise9();
        promise10();
        promise11();
        promise12();
        promise13();
        promise14();
        Due.end();
    }

    /** Calls that a new object refuses, and their ERRORS. */
    private static void refusals(Run run) {
        run.due(Due.BEYOND, x -> x.walk(0, 1, 5));
        run.due(Due.BEYOND, x -> x.line(0, 1, 5));
        run.due(Due.BEYOND, x -> x.extend(0, 0, 5));
        run.due(Due.BEYOND, x -> x.ofLine(0, -1));
        run.due(Due.BEYOND, x -> x.train(0, 0, 0));
        run.due(Due.BEYOND, x -> x.ofTrain(0, 0));
        run.due(Due.BEYOND, x -> x.stop(0, 0, 0));
        run.due(Due.BEYOND, x -> x.group(0, 1, 1, 1));
        run.due(Due.BEYOND, x -> x.ofGroup(0, 0));
        run.due(Due.BEYOND, x -> x.as(0, 0));
        run.due(Due.BEYOND, x -> x.believe(0, 1));
        run.due(Due.BEYOND, x -> x.walked(1));
        run.due(Due.BEYOND, x -> x.shift(1));
        run.due(Due.BEYOND, x -> x.lots(0, 1));
        run.due(Due.BEYOND, x -> x.ofShift(0, 0));
        run.due(Due.BEYOND, x -> x.odds(0, 0));
        run.due(Due.BEYOND, x -> x.telling(0, 0, 1, 0));
        run.due(Due.BEYOND, x -> x.gate(0, 0));
        run.due(Due.BEYOND, x -> x.seen(0, 0));
        run.due(Due.BEYOND, x -> x.voice(0, 0, 0));
        run.due(Due.BEYOND, x -> x.check(0));
        run.due(Due.NONE, x -> x.best(1, -1));
        run.due(Due.NONE, x -> x.plan(1));
        run.due(Due.NONE, x -> x.find(0, 0));
        run.due(Due.NONE, x -> x.average());
        run.due(Due.NONE, x -> x.fair(0));
        run.due(Due.NONE, x -> x.trace(0));
        run.due(Due.NONE, x -> x.put(0, 0, 1));
        run.due(Due.NONE, x -> x.move(0, 0, 0, 0, 0));
        run.due(Due.NONE, x -> x.groups(0));
        run.due(Due.NONE, x -> x.restore());
        run.due(Due.STATE, x -> x.days(1));
    }

    /** What is refused changes nothing, so that all is as at first still. */
    private static void promise1() {
        Run run = new Run(1);
        for (int round = 1; round <= 15; round++) {
            refusals(run);
        }
        run.due(15 * 21, x -> x.told(1));
        run.due(15 * 10, x -> x.told(2));
        run.due(15, x -> x.told(3));
        for (int what = 0; what <= 12; what++) {
            int each = what;
            run.due(what == 12 ? 1 : 0, x -> x.count(each));
        }
        run.due(3, x -> x.price(0, 3));
        run.due(60, x -> x.price(1, 60));
        run.due(0, x -> x.unpaid());
        run.due(0, x -> x.coin(0));
        run.due(1, x -> x.coin(1));
        run.due(1, x -> x.law(0, 1, 1, 1, 1));
        run.due(1, x -> x.law(1, 0, 0, 0, 0));
        run.due(-10, x -> x.text(0));
        run.due(run.left(), 0, x -> x.told(4));
        run.end();
    }

    private static void promise2() {
        Run run = new Run(2);
        for (int i = 0; i < 8; i++) {
            run.due(i, x -> x.station());
        }
        run.due(502, Due.FULL, x -> x.station());
        run.due(502, x -> x.told(4));
        run.due(8, x -> x.count(1));
        run.end();
    }

    private static void promise3() {
        Run run = new Run(3);
        run.due(0, x -> x.station());
        for (int i = 1; i < 8; i++) {
            run.due(i, x -> x.station());
        }
        int[][] walks = new int[8][8];
        for (int i = 0; i < 504; i++) {
            int one = i % 8;
            int other = (one + 1 + i / 8 % 7) % 8;
            int minutes = i % 62 - 1;
            int was = walks[one][other] - 1;
            run.due(was, x -> x.walk(one, other, minutes));
            walks[one][other] = minutes + 1;
            walks[other][one] = minutes + 1;
        }
        run.end();
    }

    private static void promise4() {
        Run run = new Run(4);
        for (int i = 0; i < 8; i++) {
            run.due(i, x -> x.station());
        }
        for (int i = 0; i < 4; i++) {
            int line = i;
            run.due(line, x -> x.line(line, 7 - line, 30));
        }
        for (int i = 0; i < 496; i++) {
            int one = i % 9;
            int other = i / 9 % 9;
            boolean isBeyond = one == 8 || other == 8 || one == other;
            run.due(isBeyond ? Due.BEYOND : Due.FULL, x -> x.line(one, other, 30));
        }
        for (int i = 0; i < 4; i++) {
            int line = i;
            run.due(7 - line, x -> x.ofLine(line, 1));
        }
        run.end();
    }

    /** Four LINES of six STATIONS: LINE i is i, i + 1, .. i + 5 (by 8). */
    private static void longLines(Run run) {
        for (int i = 0; i < 8; i++) {
            run.due(i, x -> x.station());
        }
        for (int i = 0; i < 4; i++) {
            int line = i;
            run.due(line, x -> x.line(line, line + 1, 1 + line));
            for (int at = 2; at < 6; at++) {
                int place = at;
                run.due(place + 1, x -> x.extend(line, (line + place) % 8, place));
            }
        }
    }

    private static void promise5() {
        Run run = new Run(5);
        longLines(run);
        for (int i = 0; run.left() > 4; i++) {
            int line = i % 4;
            int station = i / 4 % 8;
            run.due(station == (line + 5) % 8 ? Due.BEYOND : Due.FULL, x -> x.extend(line, station, 30));
        }
        for (int i = 0; i < 4; i++) {
            int line = i;
            run.due(6, x -> x.ofLine(line, -1));
        }
        run.end();
    }

    private static void promise6() {
        Run run = new Run(6);
        longLines(run);
        for (int i = 0; run.left() > 0; i++) {
            int line = i % 5;
            int place = i / 5 % 9 - 2;
            int due = place == -1 ? 6 : place == 6 ? Due.NONE : (line + place) % 8;
            run.due(line == 4 || place == -2 ? Due.BEYOND : due, x -> x.ofLine(line, place));
        }
        run.end();
    }

    private static void promise7() {
        Run run = new Run(7);
        run.build(2, 12);
        run.due(494, Due.FULL, x -> x.train(0, 1199, 1));
        run.due(12, x -> x.count(3));
        run.due(494, x -> x.told(4));
        run.due(11, x -> x.ofTrain(11, 1));
        run.end();
    }

    private static void promise8() {
        Run run = new Run(8);
        longLines(run);
        for (int i = 0; i < 12; i++) {
            int train = i;
            run.due(train, x -> x.train(train % 4, 100 * train, train / 4 % 2));
        }
        for (int i = 0; run.left() > 0; i++) {
            int train = i % 12;
            int what = i / 12 % 7;
            int line = train % 4;
            int back = train / 4 % 2;
            int last = (line + 5) % 8;
            // LEGS of 1 + LINE, 2, 3, 4, 5
            int[] due = {line, 100 * train, back, 100 * train + 15 + line, back == 1 ? last : line,
                back == 1 ? line : last, 0};
            run.due(due[what], x -> x.ofTrain(train, what));
        }
        run.end();
    }

    /** A TRAIN goes its LINE as that is now, however often it was made longer. */
    private static void promise9() {
        Run run = new Run(9);
        run.build(6, 6);
        for (int size = 2; size <= 6; size++) {
            int all = size;
            if (size > 2) {
                run.due(size, x -> x.extend(0, all - 1, 5 * (all - 1)));
            }
            // LEGS of 1, 10, 15, 20, 25: on the way back the last one is the first
            for (int train = 0; train < 6; train++) {
                int each = train;
                int minute = train;
                for (int i = 0; i < size; i++) {
                    int at = i;
                    int station = train % 2 == 0 ? i : size - 1 - i;
                    int leg = train % 2 == 0 ? i : size - i;
                    minute += i == 0 ? 0 : leg == 1 ? 1 : 5 * leg;
                    int due = minute;
                    run.due(station, x -> x.stop(each, at, 0));
                    run.due(due, x -> x.stop(each, at, 1));
                }
                int end = minute;
                run.due(Due.NONE, x -> x.stop(each, all, 0));
                run.due(Due.NONE, x -> x.stop(each, all, 1));
                run.due(end, x -> x.ofTrain(each, 3));
            }
        }
        run.due(run.left() - 1, Due.NONE, x -> x.stop(5, 6, 1));
        run.due(60 + 164, x -> x.told(2));
        run.end();
    }

    private static void promise10() {
        Run run = new Run(10);
        run.build(2, 1);
        for (int i = 0; i < 16; i++) {
            int group = i;
            run.due(group, x -> x.group(100 * (group % 8), 5, 1 + group, 1));
        }
        for (int i = 0; i < 490; i++) {
            int many = i;
            run.due(many == 0 ? Due.BEYOND : Due.FULL, x -> x.group(0, 5, many, 1));
        }
        run.due(16, x -> x.count(4));
        run.due(489, x -> x.told(4));
        run.end();
    }

    private static void promise11() {
        Run run = new Run(11);
        run.build(2, 12);
        for (int i = 0; i < 16; i++) {
            int group = i;
            run.due(group, x -> x.group(100 * (group % 8) + group % 12, 5, 1 + group, 11));
        }
        // FINE 60 is above FARE 3, so that WEIGHING and SHORT pay; READING don't without LOTS
        int[] pays = {0, 1, 1, 0, 1, 0, 1, 0};
        for (int i = 0; run.left() > 0; i++) {
            int group = i % 16;
            int what = i / 16 % 8;
            int[] due = {group % 8, group % 12, 0, 5, 1 + group, 11, 0, pays[group % 8]};
            run.due(due[what], x -> x.ofGroup(group, what));
        }
        run.end();
    }

    private static void promise12() {
        Run run = new Run(12);
        run.build(2, 1);
        int[] above = {-1, 0, 0, 2, 2, 0, 1, 5};
        for (int i = 0; i < 8; i++) {
            int kind = i;
            run.due(kind, x -> x.group(100 * kind, 1, 10 + kind, 1));
        }
        for (int i = 0; run.left() > 0; i++) {
            int group = i % 8;
            int kind = i / 8 % 8;
            int at = group;
            while (at >= 0 && at != kind) {
                at = above[at];
            }
            run.due(at == kind ? 10 + group : Due.KIND, x -> x.as(group, kind));
        }
        run.end();
    }

    private static void promise13() {
        Run run = new Run(13);
        run.build(2, 1);
        run.due(0, x -> x.group(200, 1, 1, 1));
        run.due(1, x -> x.group(300, 1, 1, 1));
        int[] belief = {1, 1};
        for (int i = 0; run.left() > 0; i++) {
            int group = i % 2;
            int pq = i / 2 % 101;
            boolean isBelief = pq % 10 > 0 && pq / 10 <= pq % 10;
            run.due(isBelief ? belief[group] : Due.BEYOND, x -> x.believe(group, pq));
            belief[group] = isBelief ? pq : belief[group];
        }
        run.end();
    }

    private static void promise14() {
        Run run = new Run(14);
        int fare = 3;
        int fine = 60;
        for (int i = 0; i < 256; i++) {
            int newFare = i % 102;
            int newFine = 4 * i;
            run.due(newFare < 1 || newFare > 99 ? Due.BEYOND : fare, x -> x.price(0, newFare));
            fare = newFare < 1 || newFare > 99 ? fare : newFare;
            run.due(newFine > 999 ? Due.BEYOND : fine, x -> x.price(1, newFine));
            fine = newFine > 999 ? fine : newFine;
        }
        run.end();
    }
}
