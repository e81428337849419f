/** Boundary cases of promises 15 to 17: THE TAPE, TEXTS and what they give. */
public final class TextsEdgesTest {
    private static final String DIGITS = "0123456789";
    private static final String OPENING = "!(";
    private static final String COMPARING = "<=>";
    private static final String JOINING = "|&+-*/%";
    private static final String[] NAMES = {"fgpqn", "nlgb"};

    private TextsEdgesTest() {
    }

    public static void main(String[] args) {
        promise15();
        promise15OfBytes();
        promise16();
        promise16OfAllBytes();
        promise16OfNumbers();
        promise16OfOpenOnes();
        promise16OfLongOnes();
        promise17();
        promise17ThatWraps();
        promise17OfWeigh();
        promise17OfFifth();
        Due.end();
    }

    /** THE TAPE with so many bytes, each of them the digit 1. */
    private static CoatsByLot withBytes(int bytes) {
        CoatsByLot x = new CoatsByLot();
        Due.feed(x, "1".repeat(bytes));
        return x;
    }

    private static void promise15() {
        Due.promise(15);
        Edge.bounds("n", CoatsByLot::new, 1, 8, (x, v) -> x.feed(-1L, v));
        for (int n = 1; n <= 8; n++) {
            Due.due("n " + n + " to none", new CoatsByLot().feed(0L, n), n);
            Due.due("n " + n + ", up to 50", withBytes(50 - n).feed(0L, n), 50);
            CoatsByLot x = withBytes(51 - n);
            Due.due("n " + n + ", up to 51", x.feed(0L, n), Due.FULL);
            Due.due("how many there are behind that", x.count(9), 51 - n);
        }
        Edge.beyond("BEYOND ahead of FULL: n", () -> withBytes(50), (x, v) -> x.feed(0L, v), Edge.MIN, 0, 9, Edge.MAX);
        CoatsByLot x = withBytes(45);
        Due.due("more than there is room for", x.feed(0L, 8), Due.FULL);
        Due.due("what there is room for", x.feed(0L, 5), 50);
        x.text(0);
        Due.due("n 8 to THE TAPE that is empty then", x.feed(0L, 8), 8);
    }

    private static void promise15OfBytes() {
        CoatsByLot x = new CoatsByLot();
        x.feed(0x38_37_36_35_34_33_2d_39L, 2);
        x.feed(0xffff_ffff_ffff_ff31L, 1);
        Due.due("the lowest bytes alone", x.text(0), 1);
        Due.due("the lowest first: 9-1", x.law(0, 0, 0, 0, 0), 8);
        x.feed(0x31_2b_31_2b_31_2b_31_2bL >>> 8, 7);
        x.feed(0x32_2b_32_2b_32_2b_32_2bL, 8);
        Due.due("all eight of a word", x.text(0), 1);
        Due.due("1+1+1+1+2+2+2+2", x.law(0, 0, 0, 0, 0), 12);
        for (int sign = 128; sign < 256; sign++) {
            CoatsByLot y = new CoatsByLot();
            y.feed((long) sign << 8 | '1', 2);
            Due.due("byte " + sign, y.text(0), -11);
        }
    }

    private static void promise16() {
        Due.promise(16);
        Edge.Maker named = () -> {
            CoatsByLot x = new CoatsByLot();
            Due.feed(x, "n");
            return x;
        };
        Edge.bounds("use", named, 0, 1, (x, v) -> x.text(v));
        for (int use : new int[] {Edge.MIN, -1, 2, Edge.MAX}) {
            CoatsByLot x = named.make();
            x.text(use);
            Due.due("THE TAPE behind use " + use, x.count(9), 1);
            Due.due("which is a TEXT still", x.text(1), 1);
        }
        CoatsByLot x = new CoatsByLot();
        for (int use = 0; use < 2; use++) {
            Due.text(x, use, "7");
            Due.due("empty THE TAPE", x.text(use), -10);
            Due.due("the one ahead, behind empty THE TAPE", x.law(use, 0, 0, 0, 0), 7);
            Due.due("a FAULT", Due.text(x, use, "8+"), -12);
            Due.due("the one ahead, behind a FAULT", x.law(use, 0, 0, 0, 0), 7);
            Due.due("THE TAPE behind a FAULT", x.count(9), 0);
            Due.due("one in place of it", Due.text(x, use, "9"), 1);
            Due.due("which it gives", x.law(use, 0, 0, 0, 0), 9);
        }
        for (int k = 1; k <= 5; k++) {
            Due.due("no FAULT is an ERROR: told(" + k + ")", x.told(k), 0);
        }
    }

    /** Each byte behind a text: with one of takes it ends too early or is whole, with another it has its FAULT there. */
    private static void goesOn(int use, String text, String takes) {
        for (char sign = 0; sign < 256; sign++) {
            int answer = Due.text(new CoatsByLot(), use, text + sign);
            boolean isTaken = answer == 1 || answer == -10 - text.length() - 1;
            String what = "USE " + use + ", byte " + (int) sign + " behind " + text;
            Due.due(what, isTaken ? 1 : answer, takes.indexOf(sign) >= 0 ? 1 : -10 - text.length());
        }
    }

    private static void promise16OfAllBytes() {
        String joining = JOINING + COMPARING;
        for (int use = 0; use < 2; use++) {
            String begins = DIGITS + OPENING + NAMES[use];
            goesOn(use, "", begins);
            for (char sign : (joining + OPENING).toCharArray()) {
                goesOn(use, OPENING.indexOf(sign) < 0 ? "n" + sign : "" + sign, begins);
            }
            goesOn(use, "n", joining);
            goesOn(use, "1", joining + DIGITS);
            goesOn(use, "1234", joining);
            goesOn(use, "n+1234", joining);
            goesOn(use, "(1)", joining);
            goesOn(use, "(1", joining + DIGITS + ")");
            goesOn(use, "(n", joining + ")");
            goesOn(use, "!n", joining);
            for (char sign : COMPARING.toCharArray()) {
                goesOn(use, "n" + sign + "n", JOINING);
                goesOn(use, "n" + sign + "n+n", JOINING);
                goesOn(use, "n" + sign + "n&n", joining);
                goesOn(use, "n" + sign + "n|n", joining);
                goesOn(use, "n" + sign + "(n", joining + ")");
                goesOn(use, "(n" + sign + "n", JOINING + ")");
                goesOn(use, "(n" + sign + "n)", joining);
            }
        }
    }

    private static void promise16OfNumbers() {
        String[] numbers = {"0", "9", "00", "99", "000", "999", "0000", "9999", "0001"};
        for (String number : numbers) {
            CoatsByLot x = new CoatsByLot();
            Due.due("the NUMBER " + number, Due.text(x, 0, number), 1);
            Due.due("which it gives", x.law(0, 0, 0, 0, 0), Integer.parseInt(number));
        }
        Due.due("a NUMBER of 5 digits", Due.text(new CoatsByLot(), 0, "00000"), -14);
        Due.due("a NUMBER of 5 digits further on", Due.text(new CoatsByLot(), 0, "n+(12345)"), -17);
        Due.due("NUMBERS of 4 digits", Due.text(new CoatsByLot(), 0, "1234+1234<1234"), 1);
    }

    private static void promise16OfOpenOnes() {
        String[] five = {"!!!!!", "(((((", "!(!(!", "(!(!(", "((!!!", "!!((("};
        for (String open : five) {
            goesOn(0, open, DIGITS + NAMES[0]);
            String closed = open + "1" + ")".repeat((int) open.chars().filter(c -> c == '(').count());
            CoatsByLot x = new CoatsByLot();
            Due.due("5 open: " + closed, Due.text(x, 0, closed), 1);
            Due.due("5 open once more: " + closed + "+" + closed, Due.text(x, 0, closed + "+" + closed), 1);
        }
        String begins = DIGITS + NAMES[0];
        goesOn(0, "((((1)+", begins + OPENING);
        goesOn(0, "(((((1)+", begins + OPENING);
        goesOn(0, "(((((1+", begins);
        goesOn(0, "(((((1)+(", begins);
        goesOn(0, "(((((1)+!", begins);
        goesOn(0, "((((!1+", begins + OPENING);
        goesOn(0, "!!!!!1+", begins + OPENING);
        goesOn(0, "!!!!(1+", begins);
        goesOn(0, "!!!!(1)+", begins + OPENING);
        goesOn(0, "!!!!(1)+!!!!", begins + OPENING);
    }

    private static void promise16OfLongOnes() {
        String long49 = "n+".repeat(24) + "n";
        CoatsByLot x = new CoatsByLot();
        Due.due("49 bytes", Due.text(x, 1, long49), 1);
        Due.due("49 bytes give", x.law(1, 3, 0, 0, 0), 75);
        Due.due("50 bytes that end too early", Due.text(x, 1, long49 + "+"), -60);
        Due.due("50 bytes with a FAULT at the last", Due.text(x, 1, long49 + "n"), -59);
        Due.due("50 bytes with a FAULT ahead of the last", Due.text(x, 1, "n+".repeat(24) + "+n"), -58);
        Due.due("50 bytes", Due.text(x, 1, "n+".repeat(24) + "11"), 1);
        Due.due("50 bytes give", x.law(1, 3, 0, 0, 0), 83);
        Due.due("as many steps as there can be", Due.text(x, 1, "!n&".repeat(16) + "!n"), 1);
        Due.due("which give", x.law(1, 0, 0, 0, 0), 1);
        Due.due("50 bytes that are still open", Due.text(x, 1, "(" + "n+".repeat(24) + "n"), -60);
        Due.due("51 bytes' first 50", textOf51(), 1);
    }

    private static int textOf51() {
        CoatsByLot x = new CoatsByLot();
        Due.feed(x, "n+".repeat(24) + "11");
        x.feed('+', 1);
        return x.text(0);
    }

    private static void gives(String text, int a, int b, int due) {
        CoatsByLot x = new CoatsByLot();
        Due.text(x, 0, text);
        Due.due(text + " of " + a + " and " + b, x.law(0, a, b, 0, 0), due);
    }

    private static void promise17() {
        Due.promise(17);
        Edge.bounds("use", CoatsByLot::new, 0, 1, (x, v) -> x.law(v, 1, 1, 1, 1));
        gives("f/g", 7, 2, 3);
        gives("f/g", -7, 2, -3);
        gives("f/g", 7, -2, -3);
        gives("f%g", -7, 2, -1);
        gives("f%g", 7, -2, 1);
        gives("f/g", 7, 0, 0);
        gives("f%g", 7, 0, 0);
        gives("f/g", Edge.MIN, 0, 0);
        gives("f%g", Edge.MIN, 0, 0);
        gives("1+f/g*2", 7, 0, 1);
        gives("f<g", Edge.MIN, Edge.MAX, 1);
        gives("f>g", Edge.MIN, Edge.MAX, 0);
        gives("f<g", Edge.MAX, Edge.MIN, 0);
        gives("f>g", Edge.MAX, Edge.MIN, 1);
        gives("f=g", Edge.MIN, Edge.MIN, 1);
        gives("f=g", Edge.MIN, Edge.MAX, 0);
        gives("f<g", 5, 5, 0);
        gives("f>g", 5, 5, 0);
        for (int a : new int[] {Edge.MIN, -1, 0, 1, 2, Edge.MAX}) {
            gives("!f", a, 0, a == 0 ? 1 : 0);
            gives("!!f", a, 0, a == 0 ? 0 : 1);
            for (int b : new int[] {Edge.MIN, -1, 0, 1, 2, Edge.MAX}) {
                gives("f|g", a, b, a == 0 && b == 0 ? 0 : 1);
                gives("f&g", a, b, a == 0 || b == 0 ? 0 : 1);
            }
        }
    }

    private static void promise17ThatWraps() {
        gives("f+g", Edge.MAX, 1, Edge.MIN);
        gives("f-g", Edge.MIN, 1, Edge.MAX);
        gives("0-f", Edge.MIN, 0, Edge.MIN);
        gives("f*g", Edge.MAX, 2, -2);
        gives("f*g", Edge.MAX, Edge.MAX, 1);
        gives("f*g", Edge.MIN, -1, Edge.MIN);
        gives("f*g", 65536, 65536, 0);
        gives("f/g", Edge.MIN, -1, Edge.MIN);
        gives("f%g", Edge.MIN, -1, 0);
        gives("f/g", Edge.MIN, 1, Edge.MIN);
        gives("f/g", Edge.MAX, -1, -Edge.MAX);
        gives("9999*9999*9999-f", 0, 0, (int) (9999L * 9999 * 9999));
        gives("f", Due.BEYOND, 0, Due.BEYOND);
        gives("f", Due.KIND, 0, Due.KIND);
    }

    private static void promise17OfWeigh() {
        CoatsByLot x = new CoatsByLot();
        Due.due("f * q is g * p", x.law(0, 4, 6, 2, 3), 1);
        Due.due("f * q is 1 more", x.law(0, 1, 6, 2, 13), 0);
        Due.due("f * q is 1 less", x.law(0, 1, 6, 2, 11), 1);
        Due.due("all 0", x.law(0, 0, 0, 0, 0), 1);
        Due.due("both below 0, like ones", x.law(0, -2, -3, 2, 3), 1);
        Due.due("f * q wraps below", x.law(0, Edge.MAX, 0, 0, 2), 1);
        Due.due("f * q wraps to 0", x.law(0, 65536, 0, 5, 65536), 1);
        Due.due("g * p wraps below", x.law(0, 0, Edge.MAX, 2, 5), 0);
        Due.due("both wrap to one number", x.law(0, Edge.MIN, Edge.MIN, 3, 5), 1);
        Due.due("no long is above: MIN and MAX", x.law(0, Edge.MIN, Edge.MAX, 1, 1), 1);
        Due.due("no long is above: MAX and MIN", x.law(0, Edge.MAX, Edge.MIN, 1, 1), 0);
        for (int v : new int[] {Edge.MIN, -1, 0, 1, Edge.MAX}) {
            Due.due("SHIFT RULE without a TEXT", x.law(1, v, v, v, v), 1);
        }
    }

    private static void promise17OfFifth() {
        CoatsByLot x = Edge.with(2, 1, 1);
        x.group(200, 5, 1, 1);
        Due.text(x, 0, "n");
        Due.due("n of GROUP 0, by which it pays", x.ofGroup(0, 7), 1);
        Due.due("a fifth NAME is 0", x.law(0, 9, 9, 9, 9), 0);
        Due.text(x, 1, "b");
        Due.due("the fourth NAME of USE 1", x.law(1, 1, 2, 3, Edge.MIN), Edge.MIN);
        for (int k = 1; k <= 5; k++) {
            Due.text(x, 1, "n");
            x.law(1, -1000000000 - k, 0, 0, 0);
            Due.due("any number is no ERROR: told(" + k + ")", x.told(k), 0);
        }
    }
}
