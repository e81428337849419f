import java.util.ArrayList;
import java.util.List;
import java.util.function.Supplier;

/** Asks an object for all that it can tell of itself, but what told() tells. */
final class Exam {
    /** Stands ahead of what is asked behind restore(). */
    static final String RESTORED = "restored: ";
    private static final int PARTS = 11;

    private final CoatsByLot x;
    private final String ahead;
    private final List<String> answers = new ArrayList<>();

    private Exam(CoatsByLot x, String ahead) {
        this.x = x;
        this.ahead = ahead;
    }

    /** An act on an object that is to be examined behind it. */
    interface Act {
        long on(CoatsByLot x);
    }

    /**
     * What an object answers behind an act, and then once more behind restore(). Each part gets an object
     * of its own: many questions change something, and an object is good for 512 calls.
     */
    static List<String> behind(Supplier<CoatsByLot> maker, Act act) {
        List<String> all = new ArrayList<>();
        for (int part = 0; part < 2 * PARTS; part++) {
            CoatsByLot x = maker.get();
            act.on(x);
            Exam exam = new Exam(x, part < PARTS ? "" : RESTORED);
            if (part >= PARTS) {
                exam.note("restore()", x.restore());
            }
            exam.ask(part % PARTS);
            all.addAll(exam.answers);
        }
        return all;
    }

    static long[] told(CoatsByLot x) {
        long[] told = new long[6];
        for (int k = 1; k <= 5; k++) {
            told[k] = x.told(k);
        }
        return told;
    }

    private void note(String question, long answer) {
        answers.add(ahead + question + " = " + answer);
    }

    private void ask(int part) {
        switch (part) {
            case 0 -> counts();
            case 1 -> walksAndLines();
            case 2 -> trains();
            case 3 -> riders();
            case 4 -> shifts();
            case 5 -> finds();
            case 6 -> texts(0);
            case 7 -> texts(1);
            case 8 -> derived();
            case 9 -> sheets();
            default -> waiting();
        }
    }

    private void counts() {
        for (int what = 0; what <= 12; what++) {
            note("count(" + what + ")", x.count(what));
        }
        for (int i = 0; i < 40; i++) {
            note("trace(" + i + ")", x.trace(i));
        }
        note("FARE", x.price(0, 1));
        note("FINE", x.price(1, 1));
        note("image()", x.image());
    }

    private void walksAndLines() {
        for (int line = 0; line < 4; line++) {
            for (int i = -1; i < 6; i++) {
                note("ofLine(" + line + ", " + i + ")", x.ofLine(line, i));
            }
        }
        for (int one = 0; one < 8; one++) {
            for (int other = one + 1; other < 8; other++) {
                note("walk(" + one + ", " + other + ")", x.walk(one, other, 1));
                note("walk(" + other + ", " + one + ")", x.walk(other, one, 1));
            }
        }
    }

    private void trains() {
        for (int train = 0; train < 12; train++) {
            for (int what = 0; what <= 6; what++) {
                note("ofTrain(" + train + ", " + what + ")", x.ofTrain(train, what));
            }
            for (int i = 0; i < 6; i++) {
                note("stop(" + train + ", " + i + ")", x.stop(train, i, 1));
            }
        }
    }

    private void riders() {
        for (int group = 0; group < 16; group++) {
            for (int what = 0; what <= 7; what++) {
                note("ofGroup(" + group + ", " + what + ")", x.ofGroup(group, what));
            }
        }
    }

    private void shifts() {
        for (int shift = 0; shift < 8; shift++) {
            for (int what = 0; what <= 2; what++) {
                note("ofShift(" + shift + ", " + what + ")", x.ofShift(shift, what));
            }
        }
        note("days(1)", x.days(1));
        note("TODAY", x.count(0));
        note("z", x.count(12));
        note("PURSE", x.count(7));
    }

    private void finds() {
        for (int i = 0; i < 60; i++) {
            for (int what = 0; what <= 2; what++) {
                note("find(" + i + ", " + what + ")", x.find(i, what));
            }
        }
        note("average()", x.average());
    }

    /** A TEXT as it stands, then THE TAPE as that. */
    private void texts(int use) {
        laws("law", use);
        note("text(" + use + ")", x.text(use));
        laws("then law", use);
    }

    private void laws(String question, int use) {
        for (int i = 0; i < 20; i++) {
            note(question + "(" + use + ", ..)", x.law(use, i, 3 * i % 7, i % 3, 7 * i % 5));
        }
    }

    private void derived() {
        note("unpaid()", x.unpaid());
        note("fair(0)", x.fair(0));
        note("turn(500)", x.turn(500));
        note("voice(0, 3, 5)", x.voice(0, 3, 5));
        for (int part = 0; part < 2; part++) {
            note("coin(" + part + ")", x.coin(part));
            note("wrong(7, " + part + ")", x.wrong(7, part));
            note("odds(0, " + part + ")", x.odds(0, part));
        }
        for (int station = 0; station < 8; station++) {
            note("gate(" + station + ")", x.gate(station, 0));
        }
        for (int i = -1; i < 8; i++) {
            note("best(2, " + i + ")", x.best(2, i));
        }
        for (int train = 0; train < 12; train++) {
            note("walked(" + (1 << train | 1) + ")", x.walked(1 << train | 1));
            note("telling(" + train + ")", x.telling(train, 0, 600, 0));
            note("seen(" + train + ")", x.seen(train, 50));
        }
    }

    /** How many numbers each SHEET has, of how many bits, and the GROUPS that come from it. */
    private void sheets() {
        for (int sheet = 0; sheet < 4; sheet++) {
            for (int n = 0; n <= 40; n++) {
                note("move(" + sheet + ", .., " + n + ")", x.move(sheet, 0, sheet, 0, n));
            }
            for (int other = 0; other < 4; other++) {
                note("move(" + sheet + ", " + other + ")", x.move(sheet, 0, other, 0, 0));
            }
        }
        for (int sheet = 0; sheet < 4; sheet++) {
            int first = x.count(4);
            int came = x.groups(sheet);
            note("groups(" + sheet + ")", came);
            for (int i = 0; i < came; i++) {
                for (int what = 0; what <= 5; what++) {
                    note("ofGroup() of those", x.ofGroup(first + i, what));
                }
            }
        }
    }

    private void waiting() {
        note("tell()", x.tell(5));
        note("check(0)", x.check(0));
        note("restore()", x.restore());
        note("check(0)", x.check(0));
    }
}
