import java.lang.reflect.InvocationTargetException;
import java.lang.reflect.Method;
import java.util.ArrayList;
import java.util.Arrays;
import java.util.HashMap;
import java.util.List;
import java.util.Map;
import java.util.Random;

/** Runs of calls by chance, on the class and on the Model: all answers are to be the same. */
public final class ModelTest {
    private static final int RUNS = 150;
    private static final int CALLS = 512;
    private static final int[] EDGES = {
        Integer.MIN_VALUE, Integer.MIN_VALUE + 1, Integer.MAX_VALUE, Integer.MAX_VALUE - 9, -1000000001,
        -2, -1, 0, 1, 2, 7, 8, 40, 41, 99, 100, 999, 1000, 1199, 1200
    };

    /** The calls in the document's order: the first one is promise 2. */
    private static final List<String> PROMISED = List.of(("station walk line extend ofLine train ofTrain stop group"
            + " ofGroup as believe price feed text law walked shift lots ofShift odds unpaid coin best plan days find"
            + " average telling turn gate wrong seen fair seed voice trace sheet put move groups image restore tell"
            + " check count told").split(" "));

    private static final Map<String, Method> FACE = new HashMap<>();
    private static final Map<String, Method> MODEL = new HashMap<>();
    private static final Map<String, Integer> GOOD = new HashMap<>();

    private final Random random;
    private final int run;
    /** One of so many arguments is any number: in each fifth run many are, since no call may ever throw. */
    private final int wild;
    private final CoatsByLot x = new CoatsByLot();
    private final Model model = new Model();
    private final List<String> log = new ArrayList<>();

    private ModelTest(int run) {
        this.run = run;
        random = new Random(run);
        wild = run % 5 == 4 ? 4 : 60;
    }

    public static void main(String[] args) throws Exception {
        int runs = args.length > 0 ? Integer.parseInt(args[0]) : RUNS;
        for (Method m : CoatsByLot.class.getDeclaredMethods()) {
            if (java.lang.reflect.Modifier.isPublic(m.getModifiers())) {
                FACE.put(m.getName(), m);
            }
        }
        for (Method m : Model.class.getDeclaredMethods()) {
            if (FACE.containsKey(m.getName()) && m.getParameterCount() == FACE.get(m.getName()).getParameterCount()) {
                MODEL.put(m.getName(), m);
            }
        }
        Due.due("methods", FACE.size(), 47);
        Due.due("methods of the model", MODEL.size(), 47);
        for (int run = 0; run < runs; run++) {
            new ModelTest(run).go();
        }
        for (String name : PROMISED) {
            Due.promise(2 + PROMISED.indexOf(name));
            if (!name.equals("told")) {
                Due.due(name + " was answered well", GOOD.getOrDefault(name, 0) > 0 ? 1 : 0, 1);
            }
        }
        if (args.length > 0) {
            System.out.println(GOOD);
        }
        Due.end();
    }

    private void go() throws Exception {
        int building = 40 + random.nextInt(60);
        boolean isRight = true;
        while (isRight && log.size() < CALLS) {
            String name = log.size() < building && random.nextInt(3) > 0 ? buildName() : anyName();
            if (name.equals("text") && random.nextInt(8) > 0) {
                feedText();
            }
            isRight = call(name, argsOf(name));
        }
    }

    /** Makes a call on both, if the class's object has still one left of those that are promised. */
    private boolean call(String name, Object... args) throws Exception {
        if (log.size() >= CALLS) {
            return false;
        }
        Due.promise(2 + PROMISED.indexOf(name));
        log.add(name + Arrays.toString(args));
        long got = ((Number) FACE.get(name).invoke(x, args)).longValue();
        long want;
        try {
            want = ((Number) MODEL.get(name).invoke(model, args)).longValue();
            GOOD.merge(name, 1, Integer::sum);
        } catch (InvocationTargetException e) {
            if (!(e.getCause() instanceof Model.Wrong w)) {
                throw e;
            }
            want = model.fail(w);
        }
        Due.due("run " + run + ", call " + log.size() + ": " + log.get(log.size() - 1), got, want);
        return got == want;
    }

    private String buildName() {
        String[] names = {"station", "station", "walk", "walk", "line", "extend", "train", "train", "group", "group",
            "group", "shift", "shift", "lots"};
        return names[random.nextInt(names.length)];
    }

    private String anyName() {
        String[] names = FACE.keySet().stream().sorted().toArray(String[]::new);
        String name = names[random.nextInt(names.length)];
        // too many of these would take back all that was built, or are slow in the model
        return List.of("restore", "best", "plan", "turn").contains(name) && random.nextInt(4) > 0 ? "shift" : name;
    }

    private int pick(int least, int most) {
        if (random.nextInt(wild) == 0) {
            return EDGES[random.nextInt(EDGES.length)];
        }
        if (random.nextInt(25) == 0) {
            return random.nextBoolean() ? least - 1 : most + 1;
        }
        long room = (long) most - least + 1;
        return room < 1 || room > Integer.MAX_VALUE ? least : least + random.nextInt((int) room);
    }

    private int stations() {
        return pick(0, model.count(1) - 1);
    }

    private int trains() {
        return pick(0, model.count(3) - 1);
    }

    private int groups() {
        return pick(0, model.count(4) - 1);
    }

    private int shifts() {
        return pick(0, model.count(5) - 1);
    }

    private int belief() {
        int q = pick(1, 9);
        return 10 * pick(0, Math.max(q, 0)) + q;
    }

    private int kindAndTrain() {
        return 100 * pick(0, 7) + trains();
    }

    private int fromAndTo() {
        int from = pick(0, 4);
        return 10 * from + pick(from + 1, 5);
    }

    private int set() {
        int n = model.count(3);
        if (random.nextInt(30) == 0) {
            return random.nextInt();
        }
        int set = 0;
        for (int i = 0; i < 1 + random.nextInt(3); i++) {
            set |= n == 0 ? 1 : 1 << random.nextInt(n);
        }
        return set;
    }

    private Object[] ints(int... v) {
        return Arrays.stream(v).boxed().toArray();
    }

    private Object[] argsOf(String name) throws Exception {
        switch (name) {
            case "station": case "unpaid": case "average": case "image": case "restore":
                return ints();
            case "walk":
                return ints(stations(), stations(), pick(-1, random.nextBoolean() ? 60 : 5));
            case "line":
                return ints(stations(), stations(), pick(1, 30));
            case "extend":
                return ints(pick(0, model.count(2) - 1), stations(), pick(1, 30));
            case "ofLine":
                return ints(pick(0, model.count(2) - 1), pick(-1, 6));
            case "train":
                return ints(pick(0, model.count(2) - 1), pick(0, random.nextBoolean() ? 1199 : 300), pick(0, 1));
            case "ofTrain":
                return ints(trains(), pick(0, 6));
            case "stop":
                return ints(trains(), pick(0, 6), pick(0, 1));
            case "group":
                return ints(kindAndTrain(), fromAndTo(), pick(1, random.nextBoolean() ? 999 : 20), belief());
            case "ofGroup":
                return ints(groups(), pick(0, 7));
            case "as":
                return ints(groups(), pick(0, 7));
            case "believe":
                return ints(groups(), belief());
            case "price":
                return random.nextBoolean() ? ints(0, pick(1, 99)) : ints(pick(0, 1), pick(0, 999));
            default:
                return argsOfPlan(name);
        }
    }

    private Object[] argsOfPlan(String name) throws Exception {
        switch (name) {
            case "feed":
                return new Object[] {random.nextLong(), pick(1, 8)};
            case "text":
                return ints(pick(0, 1));
            case "law":
                return ints(pick(0, 1), lawNumber(), lawNumber(), lawNumber(), lawNumber());
            case "walked": case "shift":
                return ints(set());
            case "lots":
                return ints(shifts(), pick(0, 9));
            case "ofShift":
                return ints(shifts(), pick(0, 2));
            case "odds":
                return ints(trains(), pick(0, 1));
            case "coin": case "fair":
                return ints(pick(0, 1));
            case "best":
                return ints(pick(1, 5), pick(-1, model.count(5)));
            case "plan":
                return ints(pick(1, 5));
            case "days":
                return ints(pick(1, random.nextInt(4) == 0 ? 50 : 5));
            case "find":
                return ints(pick(0, model.count(6)), pick(0, 2));
            case "telling":
                int l = pick(0, 600);
                return ints(trains(), random.nextBoolean() ? l : 0, pick(l, 600), pick(0, 1));
            case "turn":
                return ints(pick(0, random.nextInt(4) == 0 ? 99999 : model.unpaid() + 5));
            default:
                return argsOfRest(name);
        }
    }

    private int lawNumber() {
        return random.nextInt(4) == 0 ? random.nextInt() : random.nextInt(200) - 20;
    }

    private Object[] argsOfRest(String name) throws Exception {
        switch (name) {
            case "gate":
                return ints(stations(), pick(0, 99999));
            case "wrong":
                return ints(pick(0, 1000), pick(0, 1));
            case "seen":
                return ints(trains(), pick(0, 100));
            case "seed":
                return ints(random.nextInt());
            case "voice":
                return ints(groups(), pick(0, 3), lawNumber());
            case "trace":
                return ints(pick(0, 8));
            case "sheet":
                return ints(pick(0, 3), new int[] {0, 8, 16, 32, 16, 32, 9}[random.nextInt(7)], pick(0, 40));
            case "put":
                return putArgs();
            case "move":
                return ints(pick(0, 3), pick(0, 12), pick(0, 3), pick(0, 12), pick(0, 20));
            case "groups":
                return ints(pick(0, 3));
            case "tell":
                return ints(trains());
            case "check":
                return checkArgs();
            case "count":
                return ints(pick(0, 12));
            case "told":
                return ints(pick(1, 5));
            default:
                throw new IllegalStateException(name);
        }
    }

    private Object[] putArgs() {
        int four = random.nextInt(3);
        int place = random.nextInt(4);
        int[] good = {kindAndTrain(), fromAndTo(), pick(1, 999), belief()};
        return random.nextInt(6) == 0
                ? ints(pick(0, 3), pick(0, 40), random.nextInt())
                : ints(pick(0, 3), 4 * four + place, good[place]);
    }

    /** Most times tells TRAINS of the SHIFT first. */
    private Object[] checkArgs() throws Exception {
        int shift = shifts();
        if (shift >= 0 && shift < model.count(5) && random.nextInt(4) > 0) {
            int set = model.ofShift(shift, 0);
            List<int[]> trains = new ArrayList<>();
            for (int t = 0; t < 12; t++) {
                if ((set & 1 << t) != 0) {
                    trains.add(new int[] {model.ofTrain(t, 1), t});
                }
            }
            trains.sort(Arrays::compare);
            for (int[] train : trains) {
                if (random.nextInt(12) > 0) {
                    call("tell", train[1]);
                }
            }
        }
        return ints(shift);
    }

    private void feedText() throws Exception {
        StringBuilder text = new StringBuilder();
        String names = random.nextBoolean() ? "fgpqn" : "nlgb";
        write(text, names, 0, 0);
        if (random.nextInt(3) == 0 && text.length() > 0) {
            String bytes = "fgpqnlb0123456789!()|&<=>+-*/% xF";
            text.setCharAt(random.nextInt(text.length()), bytes.charAt(random.nextInt(bytes.length())));
        }
        if (random.nextInt(10) == 0) {
            text.setLength(random.nextInt(text.length() + 1));
        }
        int length = Math.min(text.length(), 50);
        for (int at = 0; at < length; at += 8) {
            long word = 0;
            int n = Math.min(8, length - at);
            for (int i = 0; i < n; i++) {
                word |= (long) text.charAt(at + i) << 8 * i;
            }
            call("feed", word, n);
        }
    }

    private void write(StringBuilder text, String names, int level, int depth) {
        String[] signs = {"|", "&", "<=>", "+-", "*/%"};
        if (level == 5) {
            int what = random.nextInt(8);
            if (what == 0 && depth < 7) {
                text.append('!');
                write(text, names, 5, depth + 1);
            } else if (what == 1 && depth < 7) {
                text.append('(');
                write(text, names, 0, depth + 1);
                text.append(')');
            } else if (what < 5) {
                text.append(names.charAt(random.nextInt(names.length())));
            } else {
                text.append(random.nextInt(random.nextInt(3) == 0 ? 12000 : 20));
            }
            return;
        }
        write(text, names, level + 1, depth);
        int more = random.nextInt(level == 2 ? 2 : 4) == 0 ? 1 + random.nextInt(2) : 0;
        for (int i = 0; i < more; i++) {
            text.append(signs[level].charAt(random.nextInt(signs[level].length())));
            write(text, names, level + 1, depth);
        }
    }
}
