import java.util.ArrayList;
import java.util.Arrays;
import java.util.Comparator;
import java.util.List;
import java.util.function.ToIntFunction;
import java.util.stream.Collectors;

/**
 * The document once more, written with the whole of Java and without regard to speed: KINDS as classes,
 * TEXTS as trees, BEST by trying each plan, and ERRORS as exceptions. Each method has the face's name.
 */
final class Model {
    static final class Wrong extends RuntimeException {
        private static final long serialVersionUID = 1;
        final int code;

        Wrong(int code) {
            super(null, null, false, false);
            this.code = code;
        }
    }

    static void ask(boolean good, int code) {
        if (!good) {
            throw new Wrong(code);
        }
    }

    static void askIn(int v, int least, int most) {
        ask(v >= least && v <= most, Due.BEYOND);
    }

    record Leg(int station, int minutes) {
    }

    record Train(int line, int start, int back) {
    }

    record Stop(int station, int minute) {
    }

    record Find(int shift, int many, int right) {
    }

    static final class Shift {
        int set;
        int lots;
    }

    /** A TEXT, worked out with the values of its NAMES. */
    record Text(ToIntFunction<int[]> value) {
    }

    // ---- all that an IMAGE keeps

    static final class All {
        int today = 0;
        int stations = 0;
        int[][] walks = new int[8][8];
        List<List<Leg>> lines = new ArrayList<>();
        List<Train> trains = new ArrayList<>();
        List<Rider> groups = new ArrayList<>();
        List<Shift> shifts = new ArrayList<>();
        List<Find> finds = new ArrayList<>();
        int fare = 3;
        int fine = 60;
        int purse = 0;
        int z = 1;
        StringBuilder tape = new StringBuilder();
        List<Integer> waiting = new ArrayList<>();
        Text[] texts = new Text[2];

        All copy() {
            All c = new All();
            c.today = today;
            c.stations = stations;
            for (int i = 0; i < 8; i++) {
                c.walks[i] = walks[i].clone();
            }
            for (List<Leg> line : lines) {
                c.lines.add(new ArrayList<>(line));
            }
            c.trains.addAll(trains);
            for (Rider r : groups) {
                c.groups.add(make(c, r.n, r.kind, r.train, r.from, r.to, r.m, r.p, r.q, r.until));
            }
            for (Shift s : shifts) {
                Shift t = new Shift();
                t.set = s.set;
                t.lots = s.lots;
                c.shifts.add(t);
            }
            c.finds.addAll(finds);
            c.fare = fare;
            c.fine = fine;
            c.purse = purse;
            c.z = z;
            c.tape.append(tape);
            c.waiting.addAll(waiting);
            c.texts = texts.clone();
            return c;
        }

        int all() {
            return shifts.stream().mapToInt(s -> s.lots).sum();
        }

        int lotsWith(int train) {
            return shifts.stream().filter(s -> (s.set & 1 << train) != 0).mapToInt(s -> s.lots).sum();
        }

        int weigh(int f, int g, int p, int q, int n) {
            if (texts[0] == null) {
                return f * q <= g * p ? 1 : 0;
            }
            return texts[0].value().applyAsInt(new int[] {f, g, p, q, n});
        }

        List<Stop> stops(int train) {
            Train t = trains.get(train);
            List<Leg> row = lines.get(t.line());
            List<Stop> stops = new ArrayList<>();
            int minute = t.start();
            if (t.back() == 0) {
                for (int i = 0; i < row.size(); i++) {
                    minute += i == 0 ? 0 : row.get(i).minutes();
                    stops.add(new Stop(row.get(i).station(), minute));
                }
            } else {
                for (int i = row.size() - 1; i >= 0; i--) {
                    stops.add(new Stop(row.get(i).station(), minute));
                    minute += row.get(i).minutes();
                }
            }
            return stops;
        }

        Stop last(int train) {
            List<Stop> stops = stops(train);
            return stops.get(stops.size() - 1);
        }
    }

    // ---- KINDS

    private final List<Integer> trace = new ArrayList<>();
    private static List<Integer> heard = new ArrayList<>();

    static class Rider {
        All a;
        int kind;
        int n;
        int train;
        int from;
        int to;
        int m;
        int p;
        int q;
        int until;

        int pays() {
            return 0;
        }

        void found() {
        }

        int goes(int x) {
            heard.add(10);
            return x + n;
        }

        int weighs(int x) {
            heard.add(11);
            return goes(x) * 2;
        }

        int tells(int x) {
            heard.add(12);
            return x - m;
        }

        int says(int x) {
            heard.add(13);
            return weighs(x) ^ tells(x);
        }
    }

    static class Paying extends Rider {
        @Override
        int pays() {
            return 1;
        }

        @Override
        int says(int x) {
            heard.add(20);
            return super.says(x) + 1;
        }
    }

    static class Weighing extends Rider {
        int weighed(int f, int p, int q) {
            return a.weigh(f, a.fine, p, q, to - from) != 0 ? 1 : 0;
        }

        @Override
        int pays() {
            return weighed(a.fare, p, q);
        }

        @Override
        void found() {
            if (p < q) {
                p++;
            }
        }

        @Override
        int weighs(int x) {
            heard.add(30);
            return super.weighs(x) - tells(1);
        }
    }

    static class Reading extends Weighing {
        boolean surely = false;

        @Override
        int pays() {
            if (surely) {
                return 1;
            }
            return a.all() == 0 ? weighed(a.fare, 0, 1) : weighed(a.fare, a.lotsWith(train), a.all());
        }

        @Override
        int tells(int x) {
            heard.add(40);
            return -super.tells(x);
        }
    }

    static class Short extends Weighing {
        @Override
        int pays() {
            return to - from <= 3 ? weighed(a.fare / 2, p, q) : super.pays();
        }

        @Override
        int goes(int x) {
            heard.add(50);
            return super.goes(x) * 3;
        }

        @Override
        int weighs(int x) {
            heard.add(51);
            return super.weighs(x + 1);
        }
    }

    static class Caught extends Rider {
        @Override
        int pays() {
            return a.today < until ? 1 : 0;
        }

        @Override
        void found() {
            until = a.today + 30;
        }

        @Override
        int goes(int x) {
            heard.add(60);
            return super.goes(x) ^ m;
        }
    }

    static class Late extends Paying {
        @Override
        int pays() {
            return a.trains.get(train).start() >= 1100 ? 0 : super.pays();
        }

        @Override
        int says(int x) {
            heard.add(70);
            return goes(2) - super.says(x);
        }
    }

    static class Spared extends Caught {
        @Override
        int pays() {
            return a.today + 10 < until ? 1 : 0;
        }

        @Override
        void found() {
            if (until == 0) {
                until = a.today + 1;
            } else {
                super.found();
            }
        }

        @Override
        int goes(int x) {
            heard.add(80);
            return super.goes(x) + n;
        }

        @Override
        int tells(int x) {
            heard.add(81);
            return super.tells(x) * 5;
        }
    }

    static final List<Class<? extends Rider>> CLASSES = List.of(Rider.class, Paying.class, Weighing.class,
            Reading.class, Short.class, Caught.class, Late.class, Spared.class);

    static Rider make(All a, int n, int... told) {
        Rider[] kinds = {new Rider(), new Paying(), new Weighing(), new Reading(), new Short(), new Caught(),
            new Late(), new Spared()};
        Rider r = kinds[told[0]];
        r.a = a;
        r.n = n;
        r.kind = told[0];
        r.train = told[1];
        r.from = told[2];
        r.to = told[3];
        r.m = told[4];
        r.p = told[5];
        r.q = told[6];
        r.until = told[7];
        return r;
    }

    // ---- the rest of the state

    private All a = new All();
    private All kept = null;
    private int images = 0;
    private final int[] told = new int[6];
    private final long[][] sheets = new long[4][];
    private final int[] bits = new int[4];

    Model() {
        for (int i = 0; i < 8; i++) {
            Arrays.fill(a.walks[i], -1);
            a.walks[i][i] = 0;
        }
    }

    long fail(Wrong w) {
        told[-1000000000 - w.code]++;
        return w.code;
    }

    private void askStation(int s) {
        askIn(s, 0, a.stations - 1);
    }

    private void askTrain(int t) {
        askIn(t, 0, a.trains.size() - 1);
    }

    private Rider askGroup(int g) {
        askIn(g, 0, a.groups.size() - 1);
        return a.groups.get(g);
    }

    // ---- stations, lines, trains

    int station() {
        ask(a.stations < 8, Due.FULL);
        return a.stations++;
    }

    int walk(int one, int other, int minutes) {
        askStation(one);
        askStation(other);
        askIn(minutes, -1, 60);
        ask(one != other, Due.BEYOND);
        int was = a.walks[one][other];
        a.walks[one][other] = a.walks[other][one] = minutes;
        return was;
    }

    int line(int one, int other, int leg) {
        askStation(one);
        askStation(other);
        askIn(leg, 1, 30);
        ask(one != other, Due.BEYOND);
        ask(a.lines.size() < 4, Due.FULL);
        a.lines.add(new ArrayList<>(List.of(new Leg(one, 0), new Leg(other, leg))));
        return a.lines.size() - 1;
    }

    int extend(int line, int station, int leg) {
        askIn(line, 0, a.lines.size() - 1);
        askStation(station);
        askIn(leg, 1, 30);
        List<Leg> row = a.lines.get(line);
        ask(row.get(row.size() - 1).station() != station, Due.BEYOND);
        ask(row.size() < 6, Due.FULL);
        row.add(new Leg(station, leg));
        return row.size();
    }

    int ofLine(int line, int i) {
        askIn(line, 0, a.lines.size() - 1);
        ask(i >= -1, Due.BEYOND);
        List<Leg> row = a.lines.get(line);
        if (i == -1) {
            return row.size();
        }
        ask(i < row.size(), Due.NONE);
        return row.get(i).station();
    }

    int train(int line, int start, int back) {
        askIn(line, 0, a.lines.size() - 1);
        askIn(start, 0, 1199);
        askIn(back, 0, 1);
        ask(a.trains.size() < 12, Due.FULL);
        a.trains.add(new Train(line, start, back));
        return a.trains.size() - 1;
    }

    int ofTrain(int train, int what) {
        askTrain(train);
        askIn(what, 0, 6);
        Train t = a.trains.get(train);
        int[] answers = {t.line(), t.start(), t.back(), a.last(train).minute(), a.stops(train).get(0).station(),
            a.last(train).station(), a.lotsWith(train)};
        return answers[what];
    }

    int stop(int train, int i, int what) {
        askTrain(train);
        askIn(what, 0, 1);
        ask(i >= 0, Due.BEYOND);
        List<Stop> stops = a.stops(train);
        ask(i < stops.size(), Due.NONE);
        return what == 0 ? stops.get(i).station() : stops.get(i).minute();
    }

    // ---- riders

    int group(int kt, int ft, int many, int pq) {
        ask(kt >= 0 && ft >= 0 && pq >= 0, Due.BEYOND);
        askIn(kt / 100, 0, 7);
        askTrain(kt % 100);
        askIn(ft / 10, 0, 5);
        askIn(ft % 10, 0, 5);
        ask(ft / 10 < ft % 10, Due.BEYOND);
        askIn(many, 1, 999);
        askIn(pq % 10, 1, 9);
        askIn(pq / 10, 0, pq % 10);
        ask(a.groups.size() < 16, Due.FULL);
        int n = a.groups.size();
        a.groups.add(make(a, n, kt / 100, kt % 100, ft / 10, ft % 10, many, pq / 10, pq % 10, 0));
        return n;
    }

    int ofGroup(int group, int what) {
        Rider r = askGroup(group);
        askIn(what, 0, 7);
        return new int[] {r.kind, r.train, r.from, r.to, r.m, 10 * r.p + r.q, r.until, r.pays()}[what];
    }

    int as(int group, int kind) {
        Rider r = askGroup(group);
        askIn(kind, 0, 7);
        ask(CLASSES.get(kind).isInstance(r), Due.KIND);
        return r.m;
    }

    int believe(int group, int pq) {
        Rider r = askGroup(group);
        ask(pq >= 0, Due.BEYOND);
        askIn(pq % 10, 1, 9);
        askIn(pq / 10, 0, pq % 10);
        int was = 10 * r.p + r.q;
        r.p = pq / 10;
        r.q = pq % 10;
        return was;
    }

    int price(int what, int v) {
        askIn(what, 0, 1);
        askIn(v, what == 0 ? 1 : 0, what == 0 ? 99 : 999);
        int was = what == 0 ? a.fare : a.fine;
        if (what == 0) {
            a.fare = v;
        } else {
            a.fine = v;
        }
        return was;
    }

    // ---- texts

    int feed(long word, int n) {
        askIn(n, 1, 8);
        ask(a.tape.length() + n <= 50, Due.FULL);
        for (int i = 0; i < n; i++) {
            a.tape.append((char) (word & 255));
            word >>= 8;
        }
        return a.tape.length();
    }

    int text(int use) {
        askIn(use, 0, 1);
        String text = a.tape.toString();
        a.tape.setLength(0);
        String names = use == 0 ? "fgpqn" : "nlgb";
        int fault = fault(text, names);
        if (fault >= 0) {
            return -10 - fault;
        }
        a.texts[use] = new Text(tree(text, names));
        return 1;
    }

    /** An automaton with a store, byte by byte: -1, or the FAULT. */
    static int fault(String text, String names) {
        List<Character> open = new ArrayList<>();
        List<Boolean> compared = new ArrayList<>(List.of(false));
        boolean wants = true;
        int digits = 0;
        for (int i = 0; i < text.length(); i++) {
            char c = text.charAt(i);
            boolean digit = c >= '0' && c <= '9';
            if (wants) {
                if (c == '!' || c == '(') {
                    if (open.size() == 5) {
                        return i;
                    }
                    open.add(c);
                    if (c == '(') {
                        compared.add(false);
                    }
                } else if (digit || names.indexOf(c) >= 0) {
                    digits = digit ? 1 : 0;
                    wants = false;
                } else {
                    return i;
                }
                continue;
            }
            if (digit && digits > 0 && digits < 4) {
                digits++;
                continue;
            }
            digits = 0;
            while (!open.isEmpty() && open.get(open.size() - 1) == '!') {
                open.remove(open.size() - 1);
            }
            int top = compared.size() - 1;
            if (c == ')' && !open.isEmpty()) {
                open.remove(open.size() - 1);
                compared.remove(top);
            } else if ("<=>".indexOf(c) >= 0 && !compared.get(top)) {
                compared.set(top, true);
                wants = true;
            } else if ("|&".indexOf(c) >= 0) {
                compared.set(top, false);
                wants = true;
            } else if ("+-*/%".indexOf(c) >= 0) {
                wants = true;
            } else {
                return i;
            }
        }
        return wants || open.contains('(') ? text.length() : -1;
    }

    /** Splits at the last of the weakest signs that stand in no brackets. */
    static ToIntFunction<int[]> tree(String text, String names) {
        for (String signs : new String[] {"|", "&", "<=>", "+-", "*/%"}) {
            int depth = 0;
            for (int i = text.length() - 1; i >= 0; i--) {
                char c = text.charAt(i);
                depth += c == ')' ? 1 : c == '(' ? -1 : 0;
                if (depth == 0 && signs.indexOf(c) >= 0) {
                    ToIntFunction<int[]> left = tree(text.substring(0, i), names);
                    ToIntFunction<int[]> right = tree(text.substring(i + 1), names);
                    return v -> join(c, left.applyAsInt(v), right.applyAsInt(v));
                }
            }
        }
        if (text.charAt(0) == '!') {
            ToIntFunction<int[]> of = tree(text.substring(1), names);
            return v -> of.applyAsInt(v) == 0 ? 1 : 0;
        }
        if (text.charAt(0) == '(') {
            return tree(text.substring(1, text.length() - 1), names);
        }
        int name = names.indexOf(text.charAt(0));
        if (name >= 0) {
            return v -> v[name];
        }
        int number = Integer.parseInt(text);
        return v -> number;
    }

    static int join(char sign, int l, int r) {
        return switch (sign) {
            case '|' -> l != 0 || r != 0 ? 1 : 0;
            case '&' -> l != 0 && r != 0 ? 1 : 0;
            case '<' -> l < r ? 1 : 0;
            case '=' -> l == r ? 1 : 0;
            case '>' -> l > r ? 1 : 0;
            case '+' -> l + r;
            case '-' -> l - r;
            case '*' -> l * r;
            case '/' -> r == 0 ? 0 : (int) ((long) l / r);
            default -> r == 0 ? 0 : (int) ((long) l % r);
        };
    }

    int law(int use, int b, int c, int d, int e) {
        askIn(use, 0, 1);
        if (use == 0) {
            return a.weigh(b, c, d, e, 0);
        }
        return a.texts[1] == null ? 1 : a.texts[1].value().applyAsInt(new int[] {b, c, d, e});
    }

    // ---- shifts, the plan

    private List<Integer> order(int set) {
        List<Integer> order = new ArrayList<>();
        for (int t = 0; t < 12; t++) {
            if ((set & 1 << t) != 0) {
                order.add(t);
            }
        }
        order.sort(Comparator.<Integer>comparingInt(t -> a.trains.get(t).start()).thenComparingInt(t -> t));
        return order;
    }

    int walked(int set) {
        ask(set > 0 && set >> a.trains.size() == 0, Due.BEYOND);
        List<Integer> order = order(set);
        int most = 0;
        for (int i = 0; i + 1 < order.size(); i++) {
            Stop end = a.last(order.get(i));
            Stop start = a.stops(order.get(i + 1)).get(0);
            int walk = a.walks[end.station()][start.station()];
            if (walk == -1 || end.minute() + walk > start.minute()) {
                return 1;
            }
            most = Math.max(most, start.minute() - end.minute());
        }
        int b = a.trains.get(order.get(0)).start();
        int l = a.last(order.get(order.size() - 1)).minute() - b;
        return law(1, order.size(), l, most, b) == 0 ? 2 : 0;
    }

    int shift(int set) {
        ask(walked(set) == 0, Due.STATE);
        ask(a.shifts.size() < 8, Due.FULL);
        Shift s = new Shift();
        s.set = set;
        a.shifts.add(s);
        return a.shifts.size() - 1;
    }

    int lots(int shift, int v) {
        askIn(shift, 0, a.shifts.size() - 1);
        askIn(v, 0, 9);
        int was = a.shifts.get(shift).lots;
        a.shifts.get(shift).lots = v;
        return was;
    }

    int ofShift(int shift, int what) {
        askIn(shift, 0, a.shifts.size() - 1);
        askIn(what, 0, 2);
        Shift s = a.shifts.get(shift);
        int finds = (int) a.finds.stream().filter(f -> f.shift() == shift).count();
        return new int[] {s.set, s.lots, finds}[what];
    }

    static long gcd(long x, long y) {
        return y == 0 ? x : gcd(y, x % y);
    }

    static long part(long above, long below, int part) {
        askIn(part, 0, 1);
        return (part == 0 ? above : below) / gcd(above, below);
    }

    private int below() {
        return a.all() == 0 ? 1 : a.all();
    }

    int odds(int train, int part) {
        askTrain(train);
        return (int) part(a.lotsWith(train), below(), part);
    }

    int unpaid() {
        return a.groups.stream().filter(r -> r.pays() == 0).mapToInt(r -> r.m).sum();
    }

    private long coinAbove() {
        long sum = 0;
        for (Rider r : a.groups) {
            sum += r.pays() == 1 ? (long) a.fare * r.m * below() : (long) a.fine * r.m * a.lotsWith(r.train);
        }
        return sum;
    }

    long coin(int part) {
        return part(coinAbove(), below(), part);
    }

    private static void rows(int[] row, int at, int left, List<int[]> out) {
        if (at == row.length) {
            if (left == 0) {
                out.add(row.clone());
            }
            return;
        }
        for (int v = 0; v <= left; v++) {
            row[at] = v;
            rows(row, at + 1, left - v, out);
        }
    }

    private void setPlan(int[] row) {
        for (int i = 0; i < row.length; i++) {
            a.shifts.get(i).lots = row[i];
        }
    }

    private int[] bestRow(int n) {
        int[] ahead = a.shifts.stream().mapToInt(s -> s.lots).toArray();
        List<int[]> rows = new ArrayList<>();
        rows(new int[ahead.length], 0, n, rows);
        List<long[]> keys = new ArrayList<>();
        for (int[] row : rows) {
            setPlan(row);
            keys.add(new long[] {unpaid(), -coinAbove()});
        }
        setPlan(ahead);
        int best = 0;
        for (int i = 1; i < rows.size(); i++) {
            int c = Arrays.compare(keys.get(i), keys.get(best));
            if (c < 0 || c == 0 && Arrays.compare(rows.get(i), rows.get(best)) < 0) {
                best = i;
            }
        }
        int[] answer = Arrays.copyOf(rows.get(best), ahead.length + 1);
        answer[ahead.length] = (int) keys.get(best)[0];
        return answer;
    }

    int best(int n, int i) {
        askIn(n, 1, 5);
        ask(i >= -1, Due.BEYOND);
        ask(!a.shifts.isEmpty() && i < a.shifts.size(), Due.NONE);
        return bestRow(n)[i == -1 ? a.shifts.size() : i];
    }

    int plan(int n) {
        askIn(n, 1, 5);
        ask(!a.shifts.isEmpty(), Due.NONE);
        setPlan(Arrays.copyOf(bestRow(n), a.shifts.size()));
        return unpaid();
    }

    // ---- days

    int days(int n) {
        askIn(n, 1, 50);
        ask(a.today + n <= 399 && a.all() > 0, Due.STATE);
        int sum = 0;
        for (int i = 0; i < n; i++) {
            sum += day();
        }
        return sum;
    }

    private int day() {
        List<Rider> free = a.groups.stream().filter(r -> r.pays() == 0).collect(Collectors.toList());
        a.z = a.z * 1103515245 + 12345;
        int rest = (a.z >>> 8) % a.all();
        int shift = 0;
        int together = a.shifts.get(0).lots;
        while (together <= rest) {
            shift++;
            together += a.shifts.get(shift).lots;
        }
        int set = a.shifts.get(shift).set;
        int many = 0;
        for (Rider r : free) {
            if ((set & 1 << r.train) != 0) {
                r.found();
                many += r.m;
            }
        }
        if (a.finds.size() < 60) {
            a.finds.add(new Find(shift, many, many * a.all() / a.shifts.get(shift).lots));
        }
        a.purse = (int) Math.min(1999999999L, (long) a.purse + (long) a.fine * many);
        a.today++;
        return many;
    }

    int find(int i, int what) {
        askIn(what, 0, 2);
        ask(i >= 0, Due.BEYOND);
        ask(i < a.finds.size(), Due.NONE);
        Find f = a.finds.get(i);
        return new int[] {f.shift(), f.many(), f.right()}[what];
    }

    int average() {
        ask(!a.finds.isEmpty(), Due.NONE);
        return a.finds.stream().mapToInt(Find::right).sum() / a.finds.size();
    }

    // ---- what would be

    int telling(int train, int l, int h, int what) {
        askTrain(train);
        askIn(l, 0, 600);
        askIn(h, 0, 600);
        ask(l <= h, Due.BEYOND);
        askIn(what, 0, 1);
        int set = 0;
        Train own = a.trains.get(train);
        for (int t = 0; t < a.trains.size(); t++) {
            Train o = a.trains.get(t);
            if (t != train && o.line() == own.line() && o.start() >= own.start() + l && o.start() <= own.start() + h) {
                set |= 1 << t;
            }
        }
        if (what == 0) {
            return set;
        }
        setSurely(set);
        int answer = unpaid();
        setSurely(0);
        return answer;
    }

    private void setSurely(int set) {
        for (Rider r : a.groups) {
            if (r instanceof Reading reading) {
                reading.surely = (set & 1 << r.train) != 0;
            }
        }
    }

    int turn(int x) {
        askIn(x, 0, 99999);
        int fine = a.fine;
        int answer = -1;
        for (int f = 999; f >= 0; f--) {
            a.fine = f;
            if (unpaid() <= x) {
                answer = f;
            }
        }
        a.fine = fine;
        ask(answer >= 0, Due.NONE);
        return answer;
    }

    int gate(int station, int cost) {
        askStation(station);
        askIn(cost, 0, 99999);
        int sum = 0;
        for (Rider r : a.groups) {
            List<Stop> stops = a.stops(r.train);
            if (r.pays() == 0 && r.from < stops.size() && stops.get(r.from).station() == station) {
                sum += r.m * a.fare;
            }
        }
        return sum - cost;
    }

    long wrong(int e, int part) {
        askIn(e, 0, 1000);
        long sum = 0;
        for (Rider r : a.groups) {
            sum += r.pays() == 1 ? (long) r.m * a.lotsWith(r.train) * e : 0;
        }
        return part(sum, below() * 1000L, part);
    }

    int seen(int train, int x) {
        askTrain(train);
        askIn(x, 0, 100);
        java.math.BigInteger all = java.math.BigInteger.valueOf(below());
        java.math.BigInteger missed = java.math.BigInteger.valueOf(below() - a.lotsWith(train));
        for (int n = 1; n <= 8; n++) {
            java.math.BigInteger seen = all.pow(n).subtract(missed.pow(n)).multiply(java.math.BigInteger.valueOf(100));
            if (seen.compareTo(all.pow(n).multiply(java.math.BigInteger.valueOf(x))) >= 0) {
                return n;
            }
        }
        throw new Wrong(Due.NONE);
    }

    int fair(int what) {
        askIn(what, 0, 1);
        ask(!a.groups.isEmpty(), Due.NONE);
        int[] best = null;
        for (int line = 0; line < a.lines.size(); line++) {
            int all = 0;
            int free = 0;
            for (Rider r : a.groups) {
                if (a.trains.get(r.train).line() == line) {
                    all += r.m;
                    free += r.pays() == 0 ? r.m : 0;
                }
            }
            if (all > 0 && (best == null || free * 100 / all > best[1])) {
                best = new int[] {line, free * 100 / all};
            }
        }
        return best[what];
    }

    // ---- draws, voices, sheets, images, what is told

    int seed(int v) {
        int was = a.z;
        a.z = v;
        return was;
    }

    int voice(int group, int act, int x) {
        Rider r = askGroup(group);
        askIn(act, 0, 3);
        heard = new ArrayList<>();
        int answer = switch (act) {
            case 0 -> r.goes(x);
            case 1 -> r.weighs(x);
            case 2 -> r.tells(x);
            default -> r.says(x);
        };
        trace.clear();
        trace.addAll(heard);
        return answer;
    }

    int trace(int i) {
        ask(i >= 0 && i < trace.size(), Due.NONE);
        return trace.get(i);
    }

    int sheet(int sheet, int bits, int n) {
        askIn(sheet, 0, 3);
        ask(List.of(0, 8, 16, 32).contains(bits), Due.BEYOND);
        if (bits != 0) {
            ask(n >= 0, Due.STATE);
            ask(n <= 40, Due.BEYOND);
        }
        this.bits[sheet] = bits;
        sheets[sheet] = bits == 0 ? null : new long[n];
        return 1;
    }

    int put(int sheet, int i, int v) {
        askIn(sheet, 0, 3);
        ask(sheets[sheet] != null, Due.NONE);
        askIn(i, 0, sheets[sheet].length - 1);
        sheets[sheet][i] = (long) v << 64 - bits[sheet] >> 64 - bits[sheet];
        return 1;
    }

    int move(int sheet, int i, int other, int j, int n) {
        askIn(sheet, 0, 3);
        askIn(other, 0, 3);
        ask(sheets[sheet] != null && sheets[other] != null, Due.NONE);
        ask(bits[sheet] == bits[other], Due.KIND);
        ask(n >= 0 && i >= 0 && j >= 0, Due.BEYOND);
        ask((long) i + n <= sheets[sheet].length && (long) j + n <= sheets[other].length, Due.BEYOND);
        long[] were = sheets[sheet].clone();
        for (int k = 0; k < n; k++) {
            sheets[other][j + k] = were[i + k];
        }
        return n;
    }

    int groups(int sheet) {
        askIn(sheet, 0, 3);
        ask(sheets[sheet] != null, Due.NONE);
        long[] s = sheets[sheet];
        for (int came = 0; true; came++) {
            int at = 4 * came;
            if (at + 3 >= s.length) {
                return came;
            }
            try {
                group((int) s[at], (int) s[at + 1], (int) s[at + 2], (int) s[at + 3]);
            } catch (Wrong w) {
                return came;
            }
        }
    }

    int image() {
        kept = a.copy();
        return ++images;
    }

    int restore() {
        ask(kept != null, Due.NONE);
        a = kept.copy();
        return a.today;
    }

    int tell(int v) {
        ask(a.waiting.size() < 20, Due.FULL);
        a.waiting.add(v);
        return a.waiting.size();
    }

    int check(int shift) {
        List<Integer> waited = new ArrayList<>(a.waiting);
        a.waiting.clear();
        askIn(shift, 0, a.shifts.size() - 1);
        List<Integer> order = order(a.shifts.get(shift).set);
        if (order.equals(waited)) {
            return 0;
        }
        int place = 0;
        while (place < order.size() && place < waited.size() && order.get(place).equals(waited.get(place))) {
            place++;
        }
        return 1 + place;
    }

    int count(int what) {
        askIn(what, 0, 12);
        return new int[] {a.today, a.stations, a.lines.size(), a.trains.size(), a.groups.size(), a.shifts.size(),
            a.finds.size(), a.purse, a.all(), a.tape.length(), a.waiting.size(), trace.size(), a.z}[what];
    }

    int told(int k) {
        askIn(k, 1, 5);
        return told[k];
    }
}
