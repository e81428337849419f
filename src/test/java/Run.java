/** One object and all calls that it is used for: 512, the most that are promised of one. */
final class Run {
    static final int MOST = 512;

    private final CoatsByLot x = new CoatsByLot();
    private final int promise;
    private int calls = 0;

    /** A run of calls that shows what a promise says. */
    Run(int promise) {
        this.promise = promise;
        Due.promise(promise);
    }

    /** One more call, with the answer that is due. */
    void due(long want, Exam.Act call) {
        calls++;
        Due.due("call " + calls + " of a long run", call.on(x), want);
    }

    /** As due(), so many times. */
    void due(int times, long want, Exam.Act call) {
        for (int i = 0; i < times; i++) {
            due(want, call);
        }
    }

    int left() {
        return MOST - calls;
    }

    /** So many STATIONS, a LINE of the first two, of one MINUTE, and TRAINS there and back by turns, a MINUTE apart. */
    void build(int stations, int trains) {
        for (int i = 0; i < stations; i++) {
            due(i, x -> x.station());
        }
        due(0, x -> x.line(0, 1, 1));
        for (int i = 0; i < trains; i++) {
            int train = i;
            due(train, x -> x.train(0, train, train % 2));
        }
    }

    /** Brings up to eight bytes to THE TAPE, which is empty. */
    void feed(String text) {
        long word = 0;
        for (int i = 0; i < text.length(); i++) {
            word |= (text.charAt(i) & 255L) << 8 * i;
        }
        long all = word;
        due(text.length(), x -> x.feed(all, text.length()));
    }

    /** The run is at its end: a shorter or a longer one would show something else. */
    void end() {
        Due.promise(promise);
        Due.due("how many calls a long run has", calls, MOST);
    }
}
