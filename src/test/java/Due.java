/** Counts and prints the calls whose answer is not the one that is due. */
final class Due {
    static final int BEYOND = -1000000001;
    static final int NONE = -1000000002;
    static final int STATE = -1000000003;
    static final int FULL = -1000000004;
    static final int KIND = -1000000005;

    private static int wrong = 0;
    private static int asked = 0;
    private static String promise = "";

    private Due() {
    }

    static void due(String what, long got, long want) {
        asked++;
        if (got != want) {
            wrong++;
            System.out.println(promise + what + " answered " + got + ", due is " + want);
        }
    }

    /** What is asked from here on is for the promise of this number. */
    static void promise(int number) {
        promise = "promise " + number + ": ";
    }

    /** Ends the test: with exit code 1 if an answer was not as due. */
    static void end() {
        System.out.println(wrong == 0 ? asked + " answers are as due" : wrong + " answers are not as due");
        if (wrong != 0 || asked == 0) {
            System.exit(1);
        }
    }

    /** Brings a text to THE TAPE, up to eight bytes a call. */
    static void feed(CoatsByLot x, String text) {
        for (int at = 0; at < text.length(); at += 8) {
            int n = Math.min(8, text.length() - at);
            long word = 0;
            for (int i = 0; i < n; i++) {
                word |= (text.charAt(at + i) & 255L) << 8 * i;
            }
            x.feed(word, n);
        }
    }

    static int text(CoatsByLot x, int use, String text) {
        feed(x, text);
        return x.text(use);
    }

    /** An object with so many STATIONS. */
    static CoatsByLot withStations(int n) {
        CoatsByLot x = new CoatsByLot();
        for (int i = 0; i < n; i++) {
            x.station();
        }
        return x;
    }

    /**
     * Four STATIONS; LINE 0: 0 -10- 1 -7- 2, LINE 1: 2 -20- 3; TRAINS 0: LINE 0 at 100 (END 117),
     * 1: LINE 0 back at 120 (END 137), 2: LINE 1 at 150 (END 170), 3: LINE 0 at 137 (END 154),
     * 4: LINE 0 at 1100 (END 1117).
     */
    static CoatsByLot withTrains() {
        CoatsByLot x = withStations(4);
        x.line(0, 1, 10);
        x.extend(0, 2, 7);
        x.line(2, 3, 20);
        x.train(0, 100, 0);
        x.train(0, 120, 1);
        x.train(1, 150, 0);
        x.train(0, 137, 0);
        x.train(0, 1100, 0);
        return x;
    }
}
