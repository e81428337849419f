import java.util.ArrayList;
import java.util.HashMap;
import java.util.HashSet;
import java.util.List;
import java.util.Map;
import java.util.Set;
import java.util.function.Supplier;

/**
 * For each promise: an act changes what the promise says, and what follows from that, but nothing else. What is
 * asked is what Exam asks; a twin on which the act was not done tells what stood ahead of it.
 */
public final class ChangesTest {
    /** What follows from who pays. */
    private static final String PAYS = "|ofGroup\\(\\d+, 7\\)|unpaid\\(\\)|fair\\(0\\)|turn\\(500\\)|coin\\(.\\)"
            + "|wrong\\(7, .\\)|gate\\(.\\)|best\\(2, -?.\\)|days\\(1\\)|PURSE";
    /** What follows from LOTS. */
    private static final String LOTS = "|count\\(8\\)|ofShift\\(\\d, 1\\)|ofTrain\\(\\d+, 6\\)|odds\\(0, .\\)"
            + "|seen\\(\\d+\\)" + PAYS;
    /** What a GROUP that comes is asked for, and what it pays. */
    private static final String COMES = "|count\\(4\\)" + PAYS;
    private static final String SHEETS = "(" + Exam.RESTORED + ")?(groups\\(.\\)|ofGroup\\(\\) of those";

    private final Supplier<CoatsByLot> maker;
    private final Map<String, List<String>> ahead;

    private ChangesTest(Supplier<CoatsByLot> maker) {
        this.maker = maker;
        ahead = byQuestion(Exam.behind(maker, x -> 0));
    }

    public static void main(String[] args) {
        ChangesTest test = new ChangesTest(Worlds::ordinary);
        test.roads();
        test.riders();
        test.texts();
        test.plans();
        test.rest();
        test.images();
        Due.end();
    }

    private static Map<String, List<String>> byQuestion(List<String> answers) {
        Map<String, List<String>> all = new HashMap<>();
        for (String answer : answers) {
            int at = answer.lastIndexOf(" = ");
            all.computeIfAbsent(answer.substring(0, at), q -> new ArrayList<>()).add(answer.substring(at + 3));
        }
        return all;
    }

    /** The act is done, and no answer changes but those to the questions of a pattern. */
    private void changes(int promise, String call, long due, String questions, Exam.Act act) {
        Due.promise(promise);
        Due.due(call, act.on(maker.get()), due);
        Map<String, List<String>> behind = byQuestion(Exam.behind(maker, act));
        Set<String> all = new HashSet<>(ahead.keySet());
        all.addAll(behind.keySet());
        int changed = 0;
        for (String question : all) {
            boolean isLike = ahead.getOrDefault(question, List.of()).equals(behind.getOrDefault(question, List.of()));
            boolean isFree = question.matches(questions);
            changed += isLike ? 0 : 1;
            Due.due(call + ": that it changes " + question, isLike || isFree ? 0 : 1, 0);
        }
        Due.due(call + ": that it changes something", changed > 0 ? 1 : 0, 1);
    }

    private void roads() {
        changes(2, "station()", 5, "count\\(1\\)|walk\\(5, .\\)|walk\\(., 5\\)|gate\\(5\\)", x -> x.station());
        changes(3, "walk()", -1, "walk\\(3, 4\\)|walk\\(4, 3\\)|walked\\(\\d+\\)", x -> x.walk(3, 4, 60));
        changes(4, "line()", 3, "count\\(2\\)|ofLine\\(3, -?\\d\\)", x -> x.line(0, 1, 5));
        // TRAIN 2 alone is of LINE 1
        changes(5, "extend()", 4, "ofLine\\(1, -?\\d\\)|ofTrain\\(2, [35]\\)|stop\\(2, \\d\\)|walked\\(\\d+\\)",
                x -> x.extend(1, 0, 5));
        changes(7, "train()", 6, "count\\(3\\)|ofTrain\\(6, \\d\\)|stop\\(6, \\d\\)|walked\\(65\\)|telling\\(6\\)"
                + "|seen\\(6\\)", x -> x.train(0, 5, 0));
    }

    private void riders() {
        changes(10, "group()", 9, "ofGroup\\(9, \\d\\)" + COMES, x -> x.group(0, 1, 1, 1));
        Due.due("UNTIL of a CAUGHT GROUP, which isn't 0", maker.get().ofGroup(5, 6) > 0 ? 1 : 0, 1);
        changes(13, "believe() of CAUGHT", 19, "ofGroup\\(5, 5\\)", x -> x.believe(5, 45));
        changes(13, "believe() of WEIGHING", 49, "ofGroup\\(2, 5\\)" + PAYS, x -> x.believe(2, 9));
        changes(14, "price() of FARE", 4, "FARE" + PAYS, x -> x.price(0, 77));
        changes(14, "price() of FINE", 50, "FINE" + PAYS, x -> x.price(1, 7));
        changes(42, "groups()", 2, "ofGroup\\((9|10), \\d\\)" + COMES, x -> x.groups(0));
    }

    private void texts() {
        changes(15, "feed()", 7, "count\\(9\\)|text\\(.\\)|then law\\(., ..\\)", x -> x.feed(0x31L, 1));
        changes(16, "text() with a FAULT", -16, "count\\(9\\)|text\\(.\\)", x -> x.text(0));
        changes(16, "text() with a FAULT, of the other USE", -16, "count\\(9\\)|text\\(.\\)", x -> x.text(1));
        changes(16, "text() of WEIGH", 1, "count\\(9\\)|text\\(.\\)|(then )?law\\(0, ..\\)" + PAYS, x -> {
            x.feed(0x31L, 1);
            return x.text(0);
        });
        String ruled = "count\\(9\\)|text\\(.\\)|(then )?law\\(1, ..\\)|walked\\(\\d+\\)";
        changes(16, "text() of the SHIFT RULE", 1, ruled, x -> {
            x.feed(0x30L, 1);
            return x.text(1);
        });
    }

    private void plans() {
        changes(19, "shift()", 4, "count\\(5\\)|ofShift\\(4, \\d\\)|best\\(2, -?.\\)", x -> x.shift(2));
        changes(20, "lots()", 4, "ofShift\\(3, 1\\)" + LOTS, x -> x.lots(3, 5));
        changes(26, "plan()", maker.get().best(1, -1), "ofShift\\(., 1\\)" + LOTS, x -> x.plan(1));
        long found = maker.get().days(1);
        changes(27, "days()", found, "count\\([067]\\)|count\\(12\\)|TODAY|z|ofGroup\\(\\d+, [56]\\)"
                + "|ofShift\\(\\d, 2\\)|find\\(11, \\d\\)|average\\(\\)" + PAYS, x -> x.days(1));
    }

    private void rest() {
        changes(36, "seed()", 12345, "count\\(12\\)|z|days\\(1\\)|PURSE", x -> x.seed(-99));
        changes(37, "voice()", 5, "(" + Exam.RESTORED + ")?(count\\(11\\)|trace\\(\\d+\\))", x -> x.voice(0, 0, 5));
        changes(39, "sheet()", 1, SHEETS + "|move\\(1, ., \\d+\\)|move\\(1, \\.\\., \\d+\\)|move\\(., 1\\))",
                x -> x.sheet(1, 8, 3));
        changes(39, "sheet() that is missing then", 1, SHEETS + "|move\\(2, .*\\)|move\\(., 2\\))",
                x -> x.sheet(2, 0, 3));
        changes(40, "put()", 1, SHEETS + ")", x -> x.put(2, 2, 322));
        changes(41, "move()", 4, SHEETS + ")", x -> x.move(0, 0, 0, 4, 4));
        changes(45, "tell()", 4, "count\\(10\\)|tell\\(\\)|check\\(0\\)", x -> x.tell(0));
        changes(46, "check()", 3, "count\\(10\\)|tell\\(\\)|check\\(0\\)", x -> x.check(0));
        changes(46, "check() of no SHIFT", Due.BEYOND, "count\\(10\\)|tell\\(\\)|check\\(0\\)", x -> x.check(4));
    }

    /** image() changes what restore() brings back, and how often it was done; restore() nothing that isn't kept. */
    private void images() {
        changes(43, "image()", 2, "image\\(\\)|restore\\(\\)|check\\(0\\)|" + Exam.RESTORED + ".*", x -> x.image());
        Due.promise(44);
        Map<String, List<String>> restored = byQuestion(Exam.behind(maker, x -> x.restore()));
        for (String question : ahead.keySet()) {
            if (question.startsWith(Exam.RESTORED)) {
                String plain = question.substring(Exam.RESTORED.length());
                Due.due("restore() twice: that it changes " + plain,
                        restored.get(question).equals(ahead.get(question)) ? 0 : 1, 0);
            }
            if (question.matches("trace\\(\\d+\\)|count\\(11\\)|move\\(.*\\)|image\\(\\)")) {
                Due.due("restore(): that it changes " + question,
                        restored.get(question).equals(ahead.get(question)) ? 0 : 1, 0);
            }
        }
    }
}
