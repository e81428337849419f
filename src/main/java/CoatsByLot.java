import java.util.Arrays;

/**
 * Coats by lot: trains without gates, riders who pay or don't, and a plan by
 * which pairs are sent on shifts of trains by lot. See README.md.
 */
public final class CoatsByLot {
    private static final int LOW = -1000000000;
    private static final int BEYOND = LOW - 1;
    private static final int NONE = LOW - 2;
    private static final int STATE = LOW - 3;
    private static final int FULL = LOW - 4;
    private static final int WRONG_KIND = LOW - 5;
    private static final int ERROR_KINDS = 5;

    private static final int MAX_STATIONS = 8;
    private static final int MAX_LINES = 4;
    private static final int MAX_STOPS = 6;
    private static final int MAX_TRAINS = 12;
    private static final int MAX_GROUPS = 16;
    private static final int MAX_SHIFTS = 8;
    private static final int MAX_LOTS = 9;
    private static final int MAX_FINDS = 60;
    private static final int MAX_TAPE = 50;
    private static final int MAX_WAITING = 20;
    private static final int MAX_PLANNED = 5;
    private static final int MAX_FINE = 999;
    private static final int MAX_FARE = 99;
    private static final int MAX_MANY = 999;
    private static final int MAX_WALK = 60;
    private static final int MAX_LEG = 30;
    private static final int MAX_SUM = 99999;
    private static final int MAX_TOLD_DISTANCE = 600;
    private static final int MAX_DAYS_AT_ONCE = 50;
    private static final int MAX_SEEN_DAYS = 8;
    private static final int MAX_PURSE = 1999999999;
    private static final int LAST_DAY = 399;
    private static final int LAST_MINUTE = 1199;

    private static final int RIDER = 0;
    private static final int PAYING = 1;
    private static final int WEIGHING = 2;
    private static final int READING = 3;
    private static final int SHORT = 4;
    private static final int CAUGHT = 5;
    private static final int LATE = 6;
    private static final int SPARED = 7;
    private static final int KINDS = 8;
    /** The KIND above each KIND; RIDER, the topmost, stands above itself. */
    private static final int[] ABOVE = {0, 0, 0, 2, 2, 0, 1, 5};

    private static final int WEIGH = 0;
    private static final int RULE = 1;
    private static final String WEIGH_NAMES = "fgpqn";
    private static final String RULE_NAMES = "nlgb";

    private final World now = new World();
    private final World kept = new World();
    private final Reader reader = new Reader();
    private final Search search = new Search();
    private final Voices voices = new Voices();
    private final Sheets sheets = new Sheets();
    private final int[] errors = new int[ERROR_KINDS + 1];
    private int images = 0;

    public CoatsByLot() {
    }

    // ---- stations, lines, trains

    public int station() {
        if (now.roads.stations >= MAX_STATIONS) {
            return error(FULL);
        }
        return now.roads.addStation();
    }

    public int walk(int one, int other, int minutes) {
        if (!isStation(one) || !isStation(other) || one == other || !within(minutes, -1, MAX_WALK)) {
            return error(BEYOND);
        }
        return now.roads.setWalk(one, other, minutes);
    }

    public int line(int one, int other, int leg) {
        if (!isStation(one) || !isStation(other) || one == other || !within(leg, 1, MAX_LEG)) {
            return error(BEYOND);
        }
        if (now.roads.lines >= MAX_LINES) {
            return error(FULL);
        }
        return now.roads.addLine(one, other, leg);
    }

    public int extend(int line, int station, int leg) {
        if (!isLine(line) || !isStation(station) || !within(leg, 1, MAX_LEG)) {
            return error(BEYOND);
        }
        int size = now.roads.sizes[line];
        if (now.roads.ofRow(line, size - 1) == station) {
            return error(BEYOND);
        }
        if (size >= MAX_STOPS) {
            return error(FULL);
        }
        return now.roads.lengthen(line, station, leg);
    }

    public int ofLine(int line, int i) {
        if (!isLine(line) || i < -1) {
            return error(BEYOND);
        }
        if (i == -1) {
            return now.roads.sizes[line];
        }
        if (i >= now.roads.sizes[line]) {
            return error(NONE);
        }
        return now.roads.ofRow(line, i);
    }

    public int train(int line, int start, int back) {
        if (!isLine(line) || !within(start, 0, LAST_MINUTE) || !within(back, 0, 1)) {
            return error(BEYOND);
        }
        if (now.roads.trains >= MAX_TRAINS) {
            return error(FULL);
        }
        return now.roads.addTrain(line, start, back);
    }

    public int ofTrain(int train, int what) {
        if (!isTrain(train)) {
            return error(BEYOND);
        }
        switch (what) {
            case 0:
                return now.roads.lineOf[train];
            case 1:
                return now.roads.starts[train];
            case 2:
                return now.roads.backs[train];
            case 3:
                return now.roads.endOf(train);
            case 4:
                return now.roads.stationAt(train, 0);
            case 5:
                return now.roads.lastStation(train);
            case 6:
                return now.shifts.lotsWith(train);
            default:
                return error(BEYOND);
        }
    }

    public int stop(int train, int i, int what) {
        if (!isTrain(train) || !within(what, 0, 1) || i < 0) {
            return error(BEYOND);
        }
        if (i >= now.roads.stopsOf(train)) {
            return error(NONE);
        }
        return what == 0 ? now.roads.stationAt(train, i) : now.roads.minuteAt(train, i);
    }

    // ---- riders

    public int group(int kt, int ft, int many, int pq) {
        if (!isGroupTold(kt, ft, many, pq)) {
            return error(BEYOND);
        }
        if (now.riders.groups >= MAX_GROUPS) {
            return error(FULL);
        }
        return now.riders.addGroup(kt, ft, many, pq);
    }

    public int ofGroup(int group, int what) {
        if (!isGroup(group)) {
            return error(BEYOND);
        }
        switch (what) {
            case 0:
                return now.riders.kinds[group];
            case 1:
                return now.riders.trainOf[group];
            case 2:
                return now.riders.froms[group];
            case 3:
                return now.riders.tos[group];
            case 4:
                return now.riders.manys[group];
            case 5:
                return now.riders.beliefOf(group);
            case 6:
                return now.riders.untils[group];
            case 7:
                return now.paysNow(group) ? 1 : 0;
            default:
                return error(BEYOND);
        }
    }

    public int as(int group, int kind) {
        if (!isGroup(group) || !within(kind, 0, KINDS - 1)) {
            return error(BEYOND);
        }
        if (!isUnder(now.riders.kinds[group], kind)) {
            return error(WRONG_KIND);
        }
        return now.riders.manys[group];
    }

    public int believe(int group, int pq) {
        if (!isGroup(group) || !isBelief(pq)) {
            return error(BEYOND);
        }
        return now.riders.setBelief(group, pq);
    }

    public int price(int what, int v) {
        if (what == 0 && within(v, 1, MAX_FARE)) {
            int was = now.riders.fare;
            now.riders.fare = v;
            return was;
        }
        if (what == 1 && within(v, 0, MAX_FINE)) {
            int was = now.riders.fine;
            now.riders.fine = v;
            return was;
        }
        return error(BEYOND);
    }

    // ---- texts, shifts, the plan

    public int feed(long word, int n) {
        if (!within(n, 1, 8)) {
            return error(BEYOND);
        }
        if (now.desk.bytes + n > MAX_TAPE) {
            return error(FULL);
        }
        return now.desk.addBytes(word, n);
    }

    public int text(int use) {
        if (!within(use, WEIGH, RULE)) {
            return error(BEYOND);
        }
        int fault = reader.read(now.desk, use);
        now.desk.bytes = 0;
        if (fault >= 0) {
            return -10 - fault;
        }
        now.textOf(use).copyFrom(reader.made);
        return 1;
    }

    public int law(int use, int a, int b, int c, int d) {
        if (!within(use, WEIGH, RULE)) {
            return error(BEYOND);
        }
        return use == WEIGH ? now.weigh(a, b, c, d, 0) : now.rule(a, b, c, d);
    }

    public int walked(int set) {
        if (!isSetOfTrains(set)) {
            return error(BEYOND);
        }
        return now.whyNotWalked(set);
    }

    public int shift(int set) {
        if (!isSetOfTrains(set)) {
            return error(BEYOND);
        }
        if (now.whyNotWalked(set) != 0) {
            return error(STATE);
        }
        if (now.shifts.shifts >= MAX_SHIFTS) {
            return error(FULL);
        }
        return now.shifts.addShift(set);
    }

    public int lots(int shift, int v) {
        if (!isShift(shift) || !within(v, 0, MAX_LOTS)) {
            return error(BEYOND);
        }
        int was = now.shifts.lotsOf[shift];
        now.shifts.lotsOf[shift] = v;
        return was;
    }

    public int ofShift(int shift, int what) {
        if (!isShift(shift)) {
            return error(BEYOND);
        }
        switch (what) {
            case 0:
                return now.shifts.sets[shift];
            case 1:
                return now.shifts.lotsOf[shift];
            case 2:
                return now.diary.findsOf(shift);
            default:
                return error(BEYOND);
        }
    }

    public int odds(int train, int part) {
        if (!isTrain(train) || !within(part, 0, 1)) {
            return error(BEYOND);
        }
        return (int) lowest(now.shifts.lotsWith(train), now.shifts.below(), part);
    }

    public int unpaid() {
        return now.sumUnpaid(0);
    }

    public long coin(int part) {
        if (!within(part, 0, 1)) {
            return error(BEYOND);
        }
        return lowest(now.coinAbove(), now.shifts.below(), part);
    }

    public int best(int n, int i) {
        if (!within(n, 1, MAX_PLANNED) || i < -1) {
            return error(BEYOND);
        }
        if (now.shifts.shifts == 0 || i >= now.shifts.shifts) {
            return error(NONE);
        }
        search.run(now, n);
        return i == -1 ? search.leastUnpaid : search.winner[i];
    }

    public int plan(int n) {
        if (!within(n, 1, MAX_PLANNED)) {
            return error(BEYOND);
        }
        if (now.shifts.shifts == 0) {
            return error(NONE);
        }
        search.run(now, n);
        now.shifts.take(search.winner);
        return search.leastUnpaid;
    }

    // ---- days

    public int days(int n) {
        if (!within(n, 1, MAX_DAYS_AT_ONCE)) {
            return error(BEYOND);
        }
        if (now.diary.today + n > LAST_DAY || now.shifts.all() == 0) {
            return error(STATE);
        }
        int found = 0;
        for (int day = 0; day < n; day++) {
            found += now.passDay();
        }
        return found;
    }

    public int find(int i, int what) {
        if (!within(what, 0, 2) || i < 0) {
            return error(BEYOND);
        }
        if (i >= now.diary.finds) {
            return error(NONE);
        }
        if (what == 0) {
            return now.diary.findShifts[i];
        }
        return what == 1 ? now.diary.findManys[i] : now.diary.findRights[i];
    }

    public int average() {
        if (now.diary.finds == 0) {
            return error(NONE);
        }
        return now.diary.meanRight();
    }

    // ---- what would be

    public int telling(int train, int l, int h, int what) {
        if (!isTrain(train) || !within(l, 0, MAX_TOLD_DISTANCE) || !within(h, l, MAX_TOLD_DISTANCE)
                || !within(what, 0, 1)) {
            return error(BEYOND);
        }
        int toldTrains = now.roads.trainsBehind(train, l, h);
        return what == 0 ? toldTrains : now.sumUnpaid(toldTrains);
    }

    public int turn(int x) {
        if (!within(x, 0, MAX_SUM)) {
            return error(BEYOND);
        }
        int fine = now.leastFine(x);
        return fine < 0 ? error(NONE) : fine;
    }

    public int gate(int station, int cost) {
        if (!isStation(station) || !within(cost, 0, MAX_SUM)) {
            return error(BEYOND);
        }
        return now.fareMissedAt(station) - cost;
    }

    public long wrong(int e, int part) {
        if (!within(e, 0, 1000) || !within(part, 0, 1)) {
            return error(BEYOND);
        }
        return lowest((long) e * now.payersLookedAt(), 1000L * now.shifts.below(), part);
    }

    public int seen(int train, int x) {
        if (!isTrain(train) || !within(x, 0, 100)) {
            return error(BEYOND);
        }
        int n = now.shifts.daysTillSeen(train, x);
        return n < 0 ? error(NONE) : n;
    }

    public int fair(int what) {
        if (!within(what, 0, 1)) {
            return error(BEYOND);
        }
        int worst = -1;
        int worstShare = -1;
        for (int line = 0; line < now.roads.lines; line++) {
            int share = now.unpaidOfHundred(line);
            if (share > worstShare) {
                worst = line;
                worstShare = share;
            }
        }
        if (worst < 0) {
            return error(NONE);
        }
        return what == 0 ? worst : worstShare;
    }

    // ---- draws, voices, sheets, images, what is told

    public int seed(int v) {
        int was = now.diary.z;
        now.diary.z = v;
        return was;
    }

    public int voice(int group, int act, int x) {
        if (!isGroup(group) || !within(act, 0, Voices.ACTS - 1)) {
            return error(BEYOND);
        }
        return voices.hear(now.riders, group, act, x);
    }

    public int trace(int i) {
        if (!within(i, 0, voices.begun - 1)) {
            return error(NONE);
        }
        return voices.bodies[i];
    }

    public int sheet(int sheet, int bits, int n) {
        if (!isSheet(sheet) || (bits != 0 && bits != 8 && bits != 16 && bits != 32)) {
            return error(BEYOND);
        }
        if (bits == 0) {
            return sheets.clear(sheet, 0, 0);
        }
        if (n < 0) {
            return error(STATE);
        }
        if (n > Sheets.MAX_NUMBERS) {
            return error(BEYOND);
        }
        return sheets.clear(sheet, bits, n);
    }

    public int put(int sheet, int i, int v) {
        if (!isSheet(sheet)) {
            return error(BEYOND);
        }
        if (sheets.bits[sheet] == 0) {
            return error(NONE);
        }
        if (!within(i, 0, sheets.sizes[sheet] - 1)) {
            return error(BEYOND);
        }
        sheets.numbers[sheet][i] = sheets.cut(sheet, v);
        return 1;
    }

    public int move(int sheet, int i, int other, int j, int n) {
        if (!isSheet(sheet) || !isSheet(other)) {
            return error(BEYOND);
        }
        if (sheets.bits[sheet] == 0 || sheets.bits[other] == 0) {
            return error(NONE);
        }
        if (sheets.bits[sheet] != sheets.bits[other]) {
            return error(WRONG_KIND);
        }
        if (n < 0 || !within(i, 0, sheets.sizes[sheet] - n) || !within(j, 0, sheets.sizes[other] - n)) {
            return error(BEYOND);
        }
        System.arraycopy(sheets.numbers[sheet], i, sheets.numbers[other], j, n);
        return n;
    }

    public int groups(int sheet) {
        if (!isSheet(sheet)) {
            return error(BEYOND);
        }
        if (sheets.bits[sheet] == 0) {
            return error(NONE);
        }
        int[] row = sheets.numbers[sheet];
        int came = 0;
        for (int at = 0; at + 4 <= sheets.sizes[sheet]; at += 4) {
            if (now.riders.groups >= MAX_GROUPS || !isGroupTold(row[at], row[at + 1], row[at + 2], row[at + 3])) {
                break;
            }
            now.riders.addGroup(row[at], row[at + 1], row[at + 2], row[at + 3]);
            came++;
        }
        return came;
    }

    public int image() {
        kept.copyFrom(now);
        images++;
        return images;
    }

    public int restore() {
        if (images == 0) {
            return error(NONE);
        }
        now.copyFrom(kept);
        return now.diary.today;
    }

    public int tell(int v) {
        if (now.desk.waiting >= MAX_WAITING) {
            return error(FULL);
        }
        return now.desk.addNumber(v);
    }

    public int check(int shift) {
        int waiting = now.desk.waiting;
        now.desk.waiting = 0;
        if (!isShift(shift)) {
            return error(BEYOND);
        }
        return now.checkOrder(shift, waiting);
    }

    public int count(int what) {
        switch (what) {
            case 0:
                return now.diary.today;
            case 1:
                return now.roads.stations;
            case 2:
                return now.roads.lines;
            case 3:
                return now.roads.trains;
            case 4:
                return now.riders.groups;
            case 5:
                return now.shifts.shifts;
            case 6:
                return now.diary.finds;
            case 7:
                return now.diary.purse;
            case 8:
                return now.shifts.all();
            case 9:
                return now.desk.bytes;
            case 10:
                return now.desk.waiting;
            case 11:
                return voices.begun;
            case 12:
                return now.diary.z;
            default:
                return error(BEYOND);
        }
    }

    public int told(int k) {
        if (!within(k, 1, ERROR_KINDS)) {
            return error(BEYOND);
        }
        return errors[k];
    }

    // ---- what the face asks ahead of each act

    private int error(int answer) {
        int k = LOW - answer;
        if (within(k, 1, ERROR_KINDS)) {
            errors[k]++;
        }
        return answer;
    }

    private boolean isStation(int station) {
        return within(station, 0, now.roads.stations - 1);
    }

    private boolean isLine(int line) {
        return within(line, 0, now.roads.lines - 1);
    }

    private boolean isTrain(int train) {
        return within(train, 0, now.roads.trains - 1);
    }

    private boolean isGroup(int group) {
        return within(group, 0, now.riders.groups - 1);
    }

    private boolean isShift(int shift) {
        return within(shift, 0, now.shifts.shifts - 1);
    }

    private boolean isSheet(int sheet) {
        return within(sheet, 0, Sheets.MAX_SHEETS - 1);
    }

    private boolean isSetOfTrains(int set) {
        return within(set, 1, (1 << now.roads.trains) - 1);
    }

    private boolean isGroupTold(int kt, int ft, int many, int pq) {
        if (!within(kt, 0, 100 * KINDS - 1) || !isTrain(kt % 100)) {
            return false;
        }
        int to = ft % 10;
        if (ft < 0 || to >= MAX_STOPS || ft / 10 >= to) {
            return false;
        }
        return within(many, 1, MAX_MANY) && isBelief(pq);
    }

    private static boolean isBelief(int pq) {
        return pq >= 0 && pq % 10 >= 1 && pq / 10 <= pq % 10;
    }

    private static boolean isUnder(int kind, int other) {
        int at = kind;
        for (int up = 0; up < KINDS && at != other && at != RIDER; up++) {
            at = ABOVE[at];
        }
        return at == other;
    }

    private static boolean within(int v, int least, int most) {
        return v >= least && v <= most;
    }

    private static boolean has(int set, int train) {
        return (set >> train & 1) == 1;
    }

    /** The part (0 above, 1 below the line) of a fraction in lowest terms. */
    private static long lowest(long above, long below, int part) {
        long a = above;
        long b = below;
        // Euclid needs fewer than 100 steps for any two longs
        for (int step = 0; step < 100 && b != 0; step++) {
            long rest = a % b;
            a = b;
            b = rest;
        }
        long value = part == 0 ? above : below;
        return a == 0 ? value : value / a;
    }

    private static void copyRow(int[] from, int[] to) {
        System.arraycopy(from, 0, to, 0, Math.min(from.length, to.length));
    }

    /** STATIONS, WALKS, LINES and TRAINS. */
    static final class Roads {
        int stations = 0;
        int lines = 0;
        int trains = 0;
        final int[] walks = new int[MAX_STATIONS * MAX_STATIONS];
        final int[] sizes = new int[MAX_LINES];
        final int[] rows = new int[MAX_LINES * MAX_STOPS];
        /** A LEG stands at the place of the STATION that it leads to. */
        final int[] legs = new int[MAX_LINES * MAX_STOPS];
        final int[] lineOf = new int[MAX_TRAINS];
        final int[] starts = new int[MAX_TRAINS];
        final int[] backs = new int[MAX_TRAINS];

        Roads() {
            Arrays.fill(walks, -1);
            for (int station = 0; station < MAX_STATIONS; station++) {
                walks[station * MAX_STATIONS + station] = 0;
            }
        }

        int addStation() {
            stations++;
            return stations - 1;
        }

        int walkFrom(int one, int other) {
            return walks[one * MAX_STATIONS + other];
        }

        int setWalk(int one, int other, int minutes) {
            int was = walkFrom(one, other);
            walks[one * MAX_STATIONS + other] = minutes;
            walks[other * MAX_STATIONS + one] = minutes;
            return was;
        }

        int addLine(int one, int other, int leg) {
            int line = lines;
            lines++;
            rows[line * MAX_STOPS] = one;
            sizes[line] = 1;
            lengthen(line, other, leg);
            return line;
        }

        int lengthen(int line, int station, int leg) {
            int place = line * MAX_STOPS + sizes[line];
            rows[place] = station;
            legs[place] = leg;
            sizes[line]++;
            return sizes[line];
        }

        int ofRow(int line, int i) {
            return rows[line * MAX_STOPS + i];
        }

        int addTrain(int line, int start, int back) {
            int train = trains;
            trains++;
            lineOf[train] = line;
            starts[train] = start;
            backs[train] = back;
            return train;
        }

        int stopsOf(int train) {
            return sizes[lineOf[train]];
        }

        int stationAt(int train, int i) {
            int line = lineOf[train];
            return ofRow(line, backs[train] == 1 ? sizes[line] - 1 - i : i);
        }

        int lastStation(int train) {
            return stationAt(train, stopsOf(train) - 1);
        }

        int minuteAt(int train, int i) {
            int first = lineOf[train] * MAX_STOPS;
            int size = stopsOf(train);
            int minute = starts[train];
            for (int gone = 1; gone <= i; gone++) {
                minute += legs[first + (backs[train] == 1 ? size - gone : gone)];
            }
            return minute;
        }

        int endOf(int train) {
            return minuteAt(train, stopsOf(train) - 1);
        }

        int trainsBehind(int train, int l, int h) {
            int set = 0;
            for (int other = 0; other < trains; other++) {
                int behind = starts[other] - starts[train];
                if (other != train && lineOf[other] == lineOf[train] && within(behind, l, h)) {
                    set |= 1 << other;
                }
            }
            return set;
        }

        /** Puts the TRAINS of a set in the order in which it is walked: how many there are. */
        int sortByStart(int set, int[] order) {
            int size = 0;
            for (int train = 0; train < trains; train++) {
                if (has(set, train)) {
                    int place = size;
                    while (place > 0 && starts[order[place - 1]] > starts[train]) {
                        order[place] = order[place - 1];
                        place--;
                    }
                    order[place] = train;
                    size++;
                }
            }
            return size;
        }

        void copyFrom(Roads other) {
            stations = other.stations;
            lines = other.lines;
            trains = other.trains;
            copyRow(other.walks, walks);
            copyRow(other.sizes, sizes);
            copyRow(other.rows, rows);
            copyRow(other.legs, legs);
            copyRow(other.lineOf, lineOf);
            copyRow(other.starts, starts);
            copyRow(other.backs, backs);
        }
    }

    /** GROUPS, FARE and FINE. */
    static final class Riders {
        int groups = 0;
        int fare = 3;
        int fine = 60;
        final int[] kinds = new int[MAX_GROUPS];
        final int[] trainOf = new int[MAX_GROUPS];
        final int[] froms = new int[MAX_GROUPS];
        final int[] tos = new int[MAX_GROUPS];
        final int[] manys = new int[MAX_GROUPS];
        final int[] ps = new int[MAX_GROUPS];
        final int[] qs = new int[MAX_GROUPS];
        final int[] untils = new int[MAX_GROUPS];

        int addGroup(int kt, int ft, int many, int pq) {
            int group = groups;
            groups++;
            kinds[group] = kt / 100;
            trainOf[group] = kt % 100;
            froms[group] = ft / 10;
            tos[group] = ft % 10;
            manys[group] = many;
            untils[group] = 0;
            setBelief(group, pq);
            return group;
        }

        int beliefOf(int group) {
            return 10 * ps[group] + qs[group];
        }

        int setBelief(int group, int pq) {
            int was = beliefOf(group);
            ps[group] = pq / 10;
            qs[group] = pq % 10;
            return was;
        }

        int stopsGone(int group) {
            return tos[group] - froms[group];
        }

        /** The FARE that a GROUP weighs, which isn't always the one that comes in. */
        int fareWeighed(int group) {
            return kinds[group] == SHORT && stopsGone(group) <= 3 ? fare / 2 : fare;
        }

        void beFound(int group, int today) {
            switch (kinds[group]) {
                case WEIGHING:
                case READING:
                case SHORT:
                    ps[group] = Math.min(ps[group] + 1, qs[group]);
                    break;
                case CAUGHT:
                    untils[group] = today + 30;
                    break;
                case SPARED:
                    untils[group] = untils[group] == 0 ? today + 1 : today + 30;
                    break;
                default:
                    break;
            }
        }

        void copyFrom(Riders other) {
            groups = other.groups;
            fare = other.fare;
            fine = other.fine;
            copyRow(other.kinds, kinds);
            copyRow(other.trainOf, trainOf);
            copyRow(other.froms, froms);
            copyRow(other.tos, tos);
            copyRow(other.manys, manys);
            copyRow(other.ps, ps);
            copyRow(other.qs, qs);
            copyRow(other.untils, untils);
        }
    }

    /** SHIFTS and THE PLAN. */
    static final class Shifts {
        int shifts = 0;
        final int[] sets = new int[MAX_SHIFTS];
        final int[] lotsOf = new int[MAX_SHIFTS];

        int addShift(int set) {
            int shift = shifts;
            shifts++;
            sets[shift] = set;
            lotsOf[shift] = 0;
            return shift;
        }

        int all() {
            int sum = 0;
            for (int shift = 0; shift < shifts; shift++) {
                sum += lotsOf[shift];
            }
            return sum;
        }

        /** What stands below the line of all ODDS. */
        int below() {
            return Math.max(all(), 1);
        }

        int lotsWith(int train) {
            int sum = 0;
            for (int shift = 0; shift < shifts; shift++) {
                if (has(sets[shift], train)) {
                    sum += lotsOf[shift];
                }
            }
            return sum;
        }

        /** The first SHIFT that the LOTS up to it together are above a rest by ALL. */
        int shiftOf(int rest) {
            int sum = 0;
            int shift = 0;
            for (int at = 0; at < shifts && sum <= rest; at++) {
                sum += lotsOf[at];
                shift = at;
            }
            return shift;
        }

        /** -1, if eight DAYS are too few. */
        int daysTillSeen(int train, int x) {
            long below = below();
            long missed = below - lotsWith(train);
            long allWays = 1;
            long missedWays = 1;
            for (int n = 1; n <= MAX_SEEN_DAYS; n++) {
                allWays *= below;
                missedWays *= missed;
                if (100 * (allWays - missedWays) >= x * allWays) {
                    return n;
                }
            }
            return -1;
        }

        void take(int[] row) {
            copyRow(row, lotsOf);
        }

        void copyFrom(Shifts other) {
            shifts = other.shifts;
            copyRow(other.sets, sets);
            copyRow(other.lotsOf, lotsOf);
        }
    }

    /** TODAY, PURSE, FINDS and DRAWS. */
    static final class Diary {
        int today = 0;
        int purse = 0;
        int z = 1;
        int finds = 0;
        final int[] findShifts = new int[MAX_FINDS];
        final int[] findManys = new int[MAX_FINDS];
        final int[] findRights = new int[MAX_FINDS];

        int draw() {
            z = z * 1103515245 + 12345;
            return z >>> 8;
        }

        void keepFind(int shift, int many, int right) {
            if (finds < MAX_FINDS) {
                findShifts[finds] = shift;
                findManys[finds] = many;
                findRights[finds] = right;
                finds++;
            }
        }

        int findsOf(int shift) {
            int sum = 0;
            for (int i = 0; i < finds; i++) {
                if (findShifts[i] == shift) {
                    sum++;
                }
            }
            return sum;
        }

        int meanRight() {
            int sum = 0;
            for (int i = 0; i < finds; i++) {
                sum += findRights[i];
            }
            return sum / Math.max(finds, 1);
        }

        void copyFrom(Diary other) {
            today = other.today;
            purse = other.purse;
            z = other.z;
            finds = other.finds;
            copyRow(other.findShifts, findShifts);
            copyRow(other.findManys, findManys);
            copyRow(other.findRights, findRights);
        }
    }

    /** THE TAPE, and the numbers that wait. */
    static final class Desk {
        int bytes = 0;
        int waiting = 0;
        final int[] tape = new int[MAX_TAPE];
        final int[] numbers = new int[MAX_WAITING];

        int addBytes(long word, int n) {
            for (int i = 0; i < n; i++) {
                tape[bytes + i] = (int) (word >>> 8 * i) & 255;
            }
            bytes += n;
            return bytes;
        }

        int addNumber(int v) {
            numbers[waiting] = v;
            waiting++;
            return waiting;
        }

        void copyFrom(Desk other) {
            bytes = other.bytes;
            waiting = other.waiting;
            copyRow(other.tape, tape);
            copyRow(other.numbers, numbers);
        }
    }

    /** A TEXT as it was read: numbers, NAMES and signs, each sign behind what it works on. */
    static final class Text {
        /** Steps from here on are NAMES; those below are numbers. */
        static final int NAME = 10000;
        /** Steps from here on are signs. */
        static final int SIGN = 20000;

        /** 0: there is no TEXT, since none is empty. */
        int steps = 0;
        final int[] code = new int[MAX_TAPE];
        final int[] stack = new int[MAX_TAPE];

        void add(int step) {
            // no TEXT has more steps than bytes
            if (steps < code.length) {
                code[steps] = step;
                steps++;
            }
        }

        int workOut(int[] names) {
            int height = 0;
            for (int i = 0; i < steps; i++) {
                int step = code[i];
                if (step < NAME) {
                    stack[height] = step;
                    height++;
                } else if (step < SIGN) {
                    stack[height] = names[step - NAME];
                    height++;
                } else if (step == SIGN + '!' && height > 0) {
                    stack[height - 1] = stack[height - 1] == 0 ? 1 : 0;
                } else if (height > 1) {
                    height--;
                    stack[height - 1] = join(step - SIGN, stack[height - 1], stack[height]);
                }
            }
            return stack[0];
        }

        private static int join(int sign, int a, int b) {
            switch (sign) {
                case '|':
                    return a != 0 || b != 0 ? 1 : 0;
                case '&':
                    return a != 0 && b != 0 ? 1 : 0;
                case '<':
                    return a < b ? 1 : 0;
                case '=':
                    return a == b ? 1 : 0;
                case '>':
                    return a > b ? 1 : 0;
                case '+':
                    return a + b;
                case '-':
                    return a - b;
                case '*':
                    return a * b;
                case '/':
                    return b == 0 ? 0 : a / b;
                default:
                    return b == 0 ? 0 : a % b;
            }
        }

        void copyFrom(Text other) {
            steps = other.steps;
            copyRow(other.code, code);
        }
    }

    /** Reads THE TAPE into a TEXT, or up to its FAULT. */
    static final class Reader {
        static final int MAX_OPEN = 5;
        static final int MAX_DIGITS = 4;
        static final int TOP = 0;
        static final int COMPARING = 2;
        static final int INNERMOST = 4;

        final Text made = new Text();
        private Desk desk = null;
        private String names = WEIGH_NAMES;
        private int at = 0;

        /** -1, or the FAULT: no byte is passed before a TEXT can go on with it. */
        int read(Desk from, int use) {
            desk = from;
            names = use == WEIGH ? WEIGH_NAMES : RULE_NAMES;
            at = 0;
            made.steps = 0;
            return readLevel(TOP, 0) && at == from.bytes ? -1 : at;
        }

        /** The byte to read next; -1 at the end. */
        private int next() {
            return desk != null && at < desk.bytes ? desk.tape[at] : -1;
        }

        private boolean readLevel(int level, int open) {
            if (level > INNERMOST) {
                return readFactor(open);
            }
            if (!readLevel(level + 1, open)) {
                return false;
            }
            int most = level == COMPARING ? 1 : MAX_TAPE;
            for (int joined = 0; joined < most && levelOf(next()) == level; joined++) {
                int sign = next();
                at++;
                if (!readLevel(level + 1, open)) {
                    return false;
                }
                made.add(Text.SIGN + sign);
            }
            return true;
        }

        private boolean readFactor(int open) {
            int sign = next();
            if (sign == '!' || sign == '(') {
                return open < MAX_OPEN && readOpened(sign, open + 1);
            }
            if (isDigit(sign)) {
                readNumber();
                return true;
            }
            int name = sign < 0 ? -1 : names.indexOf((char) sign);
            if (name < 0) {
                return false;
            }
            made.add(Text.NAME + name);
            at++;
            return true;
        }

        private boolean readOpened(int sign, int open) {
            at++;
            if (sign == '!') {
                if (!readFactor(open)) {
                    return false;
                }
                made.add(Text.SIGN + sign);
                return true;
            }
            if (!readLevel(TOP, open) || next() != ')') {
                return false;
            }
            at++;
            return true;
        }

        private void readNumber() {
            int number = 0;
            for (int digits = 0; digits < MAX_DIGITS && isDigit(next()); digits++) {
                number = number * 10 + next() - '0';
                at++;
            }
            made.add(number);
        }

        private static boolean isDigit(int sign) {
            return sign >= '0' && sign <= '9';
        }

        /** How deep in the grammar a sign between two stands; -1 of what is none. */
        private static int levelOf(int sign) {
            switch (sign) {
                case '|':
                    return TOP;
                case '&':
                    return 1;
                case '<':
                case '=':
                case '>':
                    return COMPARING;
                case '+':
                case '-':
                    return 3;
                case '*':
                case '/':
                case '%':
                    return INNERMOST;
                default:
                    return -1;
            }
        }
    }

    /** All that an IMAGE keeps, and what follows from it. */
    static final class World {
        final Roads roads = new Roads();
        final Riders riders = new Riders();
        final Shifts shifts = new Shifts();
        final Diary diary = new Diary();
        final Desk desk = new Desk();
        final Text weighText = new Text();
        final Text ruleText = new Text();
        private final int[] names = new int[5];
        private final int[] order = new int[MAX_TRAINS];
        private final boolean[] paid = new boolean[MAX_GROUPS];

        void copyFrom(World other) {
            roads.copyFrom(other.roads);
            riders.copyFrom(other.riders);
            shifts.copyFrom(other.shifts);
            diary.copyFrom(other.diary);
            desk.copyFrom(other.desk);
            weighText.copyFrom(other.weighText);
            ruleText.copyFrom(other.ruleText);
        }

        Text textOf(int use) {
            return use == WEIGH ? weighText : ruleText;
        }

        int weigh(int fare, int fine, int p, int q, int stops) {
            if (weighText.steps == 0) {
                return fare * q <= fine * p ? 1 : 0;
            }
            names[0] = fare;
            names[1] = fine;
            names[2] = p;
            names[3] = q;
            names[4] = stops;
            return weighText.workOut(names);
        }

        int rule(int trains, int length, int gap, int begin) {
            if (ruleText.steps == 0) {
                return 1;
            }
            names[0] = trains;
            names[1] = length;
            names[2] = gap;
            names[3] = begin;
            names[4] = 0;
            return ruleText.workOut(names);
        }

        /** 0 if a set can be a SHIFT; 1 if it can't be walked; 2 if the SHIFT RULE is 0. */
        int whyNotWalked(int set) {
            int size = roads.sortByStart(set, order);
            int longest = 0;
            for (int i = 1; i < size; i++) {
                int walk = roads.walkFrom(roads.lastStation(order[i - 1]), roads.stationAt(order[i], 0));
                int gap = roads.starts[order[i]] - roads.endOf(order[i - 1]);
                if (walk < 0 || walk > gap) {
                    return 1;
                }
                longest = Math.max(longest, gap);
            }
            if (size == 0) {
                return 1;
            }
            int begin = roads.starts[order[0]];
            int length = roads.endOf(order[size - 1]) - begin;
            return rule(size, length, longest, begin) == 0 ? 2 : 0;
        }

        /** Whether a GROUP pays, with this FINE, and with p of q as ODDS of its TRAIN. */
        boolean pays(int group, int fine, int p, int q) {
            int fare = riders.fareWeighed(group);
            int gone = riders.stopsGone(group);
            switch (riders.kinds[group]) {
                case PAYING:
                    return true;
                case WEIGHING:
                case SHORT:
                    return weigh(fare, fine, riders.ps[group], riders.qs[group], gone) != 0;
                case READING:
                    return weigh(fare, fine, p, q, gone) != 0;
                case CAUGHT:
                    return diary.today < riders.untils[group];
                case LATE:
                    return roads.starts[riders.trainOf[group]] < 1100;
                case SPARED:
                    return diary.today + 10 < riders.untils[group];
                default:
                    return false;
            }
        }

        boolean paysNow(int group) {
            return pays(group, riders.fine, shifts.lotsWith(riders.trainOf[group]), shifts.below());
        }

        /** UNPAID, when READING GROUPS on a set of TRAINS pay surely. */
        int sumUnpaid(int toldTrains) {
            int sum = 0;
            for (int group = 0; group < riders.groups; group++) {
                boolean surely = riders.kinds[group] == READING && has(toldTrains, riders.trainOf[group]);
                if (!surely && !paysNow(group)) {
                    sum += riders.manys[group];
                }
            }
            return sum;
        }

        /** What stands above the line of COIN, with below() under it. */
        long coinAbove() {
            long below = shifts.below();
            long sum = 0;
            for (int group = 0; group < riders.groups; group++) {
                long each = paysNow(group)
                        ? riders.fare * below
                        : (long) riders.fine * shifts.lotsWith(riders.trainOf[group]);
                sum += each * riders.manys[group];
            }
            return sum;
        }

        /** One DAY by THE PLAN: MANY that were FOUND. */
        int passDay() {
            for (int group = 0; group < riders.groups; group++) {
                paid[group] = paysNow(group);
            }
            int all = shifts.below();
            int shift = shifts.shiftOf(diary.draw() % all);
            int found = 0;
            for (int group = 0; group < riders.groups; group++) {
                if (!paid[group] && has(shifts.sets[shift], riders.trainOf[group])) {
                    found += riders.manys[group];
                    riders.beFound(group, diary.today);
                }
            }
            diary.keepFind(shift, found, found * all / Math.max(shifts.lotsOf[shift], 1));
            diary.purse = Math.min(diary.purse + riders.fine * found, MAX_PURSE);
            diary.today++;
            return found;
        }

        /** TURN for x; -1, if there is none. */
        int leastFine(int x) {
            int fixed = 0;
            for (int group = 0; group < riders.groups; group++) {
                if (!isUnder(riders.kinds[group], WEIGHING) && !paysNow(group)) {
                    fixed += riders.manys[group];
                }
            }
            for (int fine = 0; fine <= MAX_FINE && fixed <= x; fine++) {
                if (isTurned(fine, x - fixed)) {
                    return fine;
                }
            }
            return -1;
        }

        /** Whether, with a FINE, no more than so many of those who weigh don't pay. */
        private boolean isTurned(int fine, int most) {
            int below = shifts.below();
            int sum = 0;
            for (int group = 0; group < riders.groups && sum <= most; group++) {
                if (isUnder(riders.kinds[group], WEIGHING)
                        && !pays(group, fine, shifts.lotsWith(riders.trainOf[group]), below)) {
                    sum += riders.manys[group];
                }
            }
            return sum <= most;
        }

        int fareMissedAt(int station) {
            int sum = 0;
            for (int group = 0; group < riders.groups; group++) {
                int train = riders.trainOf[group];
                int from = riders.froms[group];
                if (from < roads.stopsOf(train) && roads.stationAt(train, from) == station && !paysNow(group)) {
                    sum += riders.manys[group];
                }
            }
            return riders.fare * sum;
        }

        /** MANY of all that pay, each times LOTS of their TRAIN. */
        int payersLookedAt() {
            int sum = 0;
            for (int group = 0; group < riders.groups; group++) {
                if (paysNow(group)) {
                    sum += riders.manys[group] * shifts.lotsWith(riders.trainOf[group]);
                }
            }
            return sum;
        }

        /** -1 of a LINE without riders. */
        int unpaidOfHundred(int line) {
            int riding = 0;
            int free = 0;
            for (int group = 0; group < riders.groups; group++) {
                if (roads.lineOf[riders.trainOf[group]] == line) {
                    riding += riders.manys[group];
                    free += paysNow(group) ? 0 : riders.manys[group];
                }
            }
            return riding == 0 ? -1 : free * 100 / riding;
        }

        /** 0, or 1 and the first place at which the numbers aren't the TRAINS as they are walked. */
        int checkOrder(int shift, int waiting) {
            int size = roads.sortByStart(shifts.sets[shift], order);
            int same = 0;
            while (same < size && same < waiting && desk.numbers[same] == order[same]) {
                same++;
            }
            return same == size && same == waiting ? 0 : 1 + same;
        }
    }

    /** Looks for BEST. */
    static final class Search {
        int leastUnpaid = 0;
        final int[] winner = new int[MAX_SHIFTS];
        private long mostFines = 0;
        private boolean isFirst = true;
        private final int[] row = new int[MAX_SHIFTS];
        /** MANY that don't pay on each TRAIN, by how many of the n LOTS it has. */
        private final int[] unpaidBy = new int[MAX_TRAINS * (MAX_PLANNED + 1)];

        void run(World world, int n) {
            isFirst = true;
            Arrays.fill(row, 0);
            fillUnpaid(world, n);
            tryRows(world, 0, n);
        }

        private void fillUnpaid(World world, int n) {
            Arrays.fill(unpaidBy, 0);
            Riders riders = world.riders;
            for (int group = 0; group < riders.groups; group++) {
                for (int p = 0; p <= n; p++) {
                    if (!world.pays(group, riders.fine, p, n)) {
                        unpaidBy[riders.trainOf[group] * (MAX_PLANNED + 1) + p] += riders.manys[group];
                    }
                }
            }
        }

        /** Goes through the rows with the fewest LOTS of SHIFT 0 first, then of SHIFT 1, and so on. */
        private void tryRows(World world, int shift, int left) {
            if (shift >= world.shifts.shifts - 1 || shift >= MAX_SHIFTS - 1) {
                row[shift] = left;
                compareRow(world);
                return;
            }
            for (int v = 0; v <= left; v++) {
                row[shift] = v;
                tryRows(world, shift + 1, left - v);
            }
        }

        private void compareRow(World world) {
            int unpaid = 0;
            long fined = 0;
            for (int train = 0; train < world.roads.trains; train++) {
                int lots = lotsInRow(world.shifts, train);
                int free = unpaidBy[train * (MAX_PLANNED + 1) + lots];
                unpaid += free;
                fined += (long) free * lots;
            }
            // COIN decides only where UNPAID is alike: then FARES are, and all is by the same n
            long fines = fined * world.riders.fine;
            if (isFirst || unpaid < leastUnpaid || unpaid == leastUnpaid && fines > mostFines) {
                isFirst = false;
                leastUnpaid = unpaid;
                mostFines = fines;
                copyRow(row, winner);
            }
        }

        private int lotsInRow(Shifts shifts, int train) {
            int sum = 0;
            for (int shift = 0; shift < shifts.shifts; shift++) {
                if (has(shifts.sets[shift], train)) {
                    sum += row[shift];
                }
            }
            return Math.min(sum, MAX_PLANNED);
        }
    }

    /** VOICES and THE TRACE. */
    static final class Voices {
        static final int ACTS = 4;
        static final int GOES = 0;
        static final int WEIGHS = 1;
        static final int TELLS = 2;
        static final int PAYS = 3;
        static final int MAX_TRACE = 40;
        static final int MAX_DEPTH = 30;
        /** The BODIES of each KIND, by act; 0 where it has none. */
        private static final int[] BODIES = {
            10, 11, 12, 13,
            0, 0, 0, 20,
            0, 30, 0, 0,
            0, 0, 40, 0,
            50, 51, 0, 0,
            60, 0, 0, 0,
            0, 0, 0, 70,
            80, 0, 81, 0
        };

        int begun = 0;
        final int[] bodies = new int[MAX_TRACE];
        private int kind = RIDER;
        private int number = 0;
        private int many = 0;

        int hear(Riders riders, int group, int act, int x) {
            kind = riders.kinds[group];
            number = group;
            many = riders.manys[group];
            begun = 0;
            return speak(kind, act, x, 0);
        }

        /** The BODY of an act, of a KIND or of the next one above that has one. */
        private int speak(int from, int act, int x, int depth) {
            int owner = from;
            for (int up = 0; up < KINDS && BODIES[owner * ACTS + act] == 0; up++) {
                owner = ABOVE[owner];
            }
            if (depth > MAX_DEPTH) {
                return 0;
            }
            int body = BODIES[owner * ACTS + act];
            if (begun < MAX_TRACE) {
                bodies[begun] = body;
                begun++;
            }
            return runBody(body, ABOVE[owner], x, depth + 1);
        }

        private int runBody(int body, int above, int x, int depth) {
            switch (body) {
                case 10:
                    return x + number;
                case 11:
                    return speak(kind, GOES, x, depth) * 2;
                case 12:
                    return x - many;
                case 13:
                    return speak(kind, WEIGHS, x, depth) ^ speak(kind, TELLS, x, depth);
                case 20:
                    return speak(above, PAYS, x, depth) + 1;
                case 30:
                    return speak(above, WEIGHS, x, depth) - speak(kind, TELLS, 1, depth);
                case 40:
                    return -speak(above, TELLS, x, depth);
                case 50:
                    return speak(above, GOES, x, depth) * 3;
                case 51:
                    return speak(above, WEIGHS, x + 1, depth);
                case 60:
                    return speak(above, GOES, x, depth) ^ many;
                case 70:
                    return speak(kind, GOES, 2, depth) - speak(above, PAYS, x, depth);
                case 80:
                    return speak(above, GOES, x, depth) + number;
                default:
                    return speak(above, TELLS, x, depth) * 5;
            }
        }
    }

    /** SHEETS. */
    static final class Sheets {
        static final int MAX_SHEETS = 4;
        static final int MAX_NUMBERS = 40;

        /** 0 bits: it is missing. */
        final int[] bits = new int[MAX_SHEETS];
        final int[] sizes = new int[MAX_SHEETS];
        final int[][] numbers = new int[MAX_SHEETS][MAX_NUMBERS];

        int clear(int sheet, int bitsOfEach, int n) {
            bits[sheet] = bitsOfEach;
            sizes[sheet] = n;
            Arrays.fill(numbers[sheet], 0);
            return 1;
        }

        int cut(int sheet, int v) {
            if (bits[sheet] == 8) {
                return (byte) v;
            }
            return bits[sheet] == 16 ? (short) v : v;
        }
    }
}
