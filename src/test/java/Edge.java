/** The last value that is taken and the first one that isn't, at both ends of what an argument may be. */
final class Edge {
    static final int MIN = Integer.MIN_VALUE;
    static final int MAX = Integer.MAX_VALUE;

    private Edge() {
    }

    /** Makes the object on which one call is tried. */
    interface Maker {
        CoatsByLot make();
    }

    /** A call, with the one argument that is tried. */
    interface Call {
        long of(CoatsByLot x, int v);
    }

    /** From least to most the argument is taken; else the answer is BEYOND. */
    static void bounds(String what, Maker maker, int least, int most, Call call) {
        beyond(what, maker, call, MIN, least - 1, most + 1, MAX);
        taken(what, maker, call, least, most);
    }

    static void beyond(String what, Maker maker, Call call, int... values) {
        for (int v : values) {
            Due.due(what + " with " + v, call.of(maker.make(), v), Due.BEYOND);
        }
    }

    static void taken(String what, Maker maker, Call call, int... values) {
        for (int v : values) {
            long answer = call.of(maker.make(), v);
            Due.due(what + " with " + v + " is taken: it", isError(answer) ? answer : 0, 0);
        }
    }

    static boolean isError(long answer) {
        return answer >= Due.KIND && answer <= Due.BEYOND;
    }

    /** So many STATIONS, LINES that go from 0 to 1 in one MINUTE, and TRAINS of the first LINE from MINUTE 0 on. */
    static CoatsByLot with(int stations, int lines, int trains) {
        CoatsByLot x = Due.withStations(stations);
        for (int i = 0; i < lines; i++) {
            x.line(0, 1, 1);
        }
        for (int i = 0; i < trains; i++) {
            x.train(0, 100 * i, 0);
        }
        return x;
    }

    /** As with(2, 1, trains), and a SHIFT of each TRAIN alone, with LOTS as told. */
    static CoatsByLot withLots(int trains, int... lots) {
        CoatsByLot x = with(2, 1, trains);
        for (int i = 0; i < lots.length; i++) {
            x.shift(1 << i % trains);
            x.lots(i, lots[i]);
        }
        return x;
    }

    /** Lets so many DAYS go. */
    static void pass(CoatsByLot x, int days) {
        for (int left = days; left > 0; left -= 50) {
            x.days(Math.min(left, 50));
        }
    }
}
