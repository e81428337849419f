/** Promises 15 to 17: THE TAPE, TEXTS and what they give. */
public final class TextsTest {
    private TextsTest() {
    }

    public static void main(String[] args) {
        promise15();
        promise16();
        faults();
        promise17();
        Due.end();
    }

    private static void promise15() {
        Due.promise(15);
        CoatsByLot x = new CoatsByLot();
        Due.due("feed 0", x.feed(1, 0), Due.BEYOND);
        Due.due("feed 9", x.feed(1, 9), Due.BEYOND);
        Due.due("feed -1", x.feed(1, -1), Due.BEYOND);
        Due.due("feed 8", x.feed(-1L, 8), 8);
        for (int i = 2; i <= 6; i++) {
            Due.due("feed " + 8 * i, x.feed(0L, 8), 8 * i);
        }
        Due.due("feed 51", x.feed(0L, 3), Due.FULL);
        Due.due("BEYOND ahead of FULL", x.feed(0L, 9), Due.BEYOND);
        Due.due("feed 50", x.feed(0L, 2), 50);
        Due.due("feed one more", x.feed(0L, 1), Due.FULL);
        Due.due("bytes", x.count(9), 50);
        x = new CoatsByLot();
        // the lowest byte first, and no more than n of them
        x.feed(0x2a_2a_2a_2a_2a_32_2d_39L, 3);
        Due.due("9-2", x.text(1), 1);
        Due.due("9-2 gives", x.law(1, 0, 0, 0, 0), 7);
        x.feed(0x39_2d_39_2d_39_2d_39_2dL, 8);
        Due.due("starts with -", x.text(1), -10);
    }

    private static void promise16() {
        Due.promise(16);
        CoatsByLot x = new CoatsByLot();
        Due.feed(x, "f+g");
        Due.due("use 2", x.text(2), Due.BEYOND);
        Due.due("use -1", x.text(-1), Due.BEYOND);
        Due.due("THE TAPE stays", x.count(9), 3);
        Due.due("text", x.text(0), 1);
        Due.due("THE TAPE is empty", x.count(9), 0);
        Due.due("its law", x.law(0, 4, 5, 0, 0), 9);
        Due.due("a fault", Due.text(x, 0, "f+"), -12);
        Due.due("THE TAPE is empty, too", x.count(9), 0);
        Due.due("a fault is no ERROR", x.told(1), 2);
        Due.due("the one ahead stays", x.law(0, 4, 5, 0, 0), 9);
        Due.due("in place of one ahead", Due.text(x, 0, "f"), 1);
        Due.due("the new law", x.law(0, 4, 5, 0, 0), 4);
        Due.due("the other use is apart", x.law(1, 4, 5, 0, 0), 1);
        Due.due("50 bytes", Due.text(x, 0, "1234+1234+1234+1234+1234+1234+1234+1234+1234+12345"), -59);
        Due.due("50 bytes, whole", Due.text(x, 0, "1234+1234+1234+1234+1234+1234+1234+1234+1234+1+1+1"), 1);
        Due.due("50 bytes give", x.law(0, 0, 0, 0, 0), 9 * 1234 + 3);
    }

    private static void fault(int use, String text, int place) {
        CoatsByLot x = new CoatsByLot();
        Due.due("text(" + use + ") of " + text, Due.text(x, use, text), -10 - place);
    }

    private static void faults() {
        fault(0, "", 0);
        fault(1, "x", 0);
        fault(0, "1+", 2);
        fault(0, "12345", 4);
        fault(0, "1 ", 1);
        fault(0, "1<2<3", 3);
        fault(0, "1<2=3", 3);
        fault(0, "(1<2)<3>1", 7);
        fault(0, "(1", 2);
        fault(0, "()", 1);
        fault(0, "1)", 1);
        fault(0, "(1))", 3);
        fault(0, "1(", 1);
        fault(0, "1!", 1);
        fault(0, "ff", 1);
        fault(0, "f1", 1);
        fault(0, "1f", 1);
        fault(0, "(1)1", 3);
        fault(0, "l", 0);
        fault(0, "b", 0);
        fault(1, "f", 0);
        fault(1, "p", 0);
        fault(1, "n+q", 2);
        fault(0, "-1", 0);
        fault(0, "1+-1", 2);
        fault(0, "1||1", 2);
        fault(0, "1<=2", 2);
        fault(0, "!", 1);
        fault(0, "!!!!!!1", 5);
        fault(0, "((((((1", 5);
        fault(0, "!(!(!(1", 5);
        fault(0, "!!!!!", 5);
        fault(0, "(((((1)))))(", 11);
        fault(0, "1&(2|3&!4+" + (char) 233, 10);
        CoatsByLot x = new CoatsByLot();
        Due.due("five open", Due.text(x, 0, "!!!!!1"), 1);
        Due.due("five open, and five more", Due.text(x, 0, "(!(!(1)))+!(!(!1))"), 1);
        Due.due("! is closed by its Q", Due.text(x, 0, "!1+!1+!1+!1+!1+!1+!1"), 1);
        Due.due("! is closed by its )", Due.text(x, 0, "!(1)+(((((1)))))"), 1);
        Due.due("one comparison on each side of &", Due.text(x, 0, "1<2&2>1|3=3"), 1);
        Due.due("all of USE 1's NAMES", Due.text(x, 1, "n+l+g+b"), 1);
        Due.due("all of USE 0's NAMES", Due.text(x, 0, "f+g+p+q+n"), 1);
    }

    private static void gives(String text, int due) {
        CoatsByLot x = new CoatsByLot();
        Due.due("text " + text, Due.text(x, 0, text), 1);
        Due.due(text + " gives", x.law(0, 7, -3, 2, Integer.MIN_VALUE), due);
    }

    private static void promise17() {
        Due.promise(17);
        gives("f", 7);
        gives("g", -3);
        gives("p", 2);
        gives("q", Integer.MIN_VALUE);
        gives("n", 0);
        gives("0099", 99);
        gives("9999", 9999);
        gives("1+2*3", 7);
        gives("(1+2)*3", 9);
        gives("9-3-2", 4);
        gives("100/7/2", 7);
        gives("g/p", -1);
        gives("g%p", -1);
        gives("f%g", 1);
        gives("f/0", 0);
        gives("f%0", 0);
        gives("q/(0-1)", Integer.MIN_VALUE);
        gives("q%(0-1)", 0);
        gives("q-1", Integer.MAX_VALUE);
        gives("q*q", 0);
        gives("9999*9999*99", 1308085507);
        gives("5|0", 1);
        gives("0|0", 0);
        gives("5&6", 1);
        gives("5&0", 0);
        gives("0|5&0", 0);
        gives("1|1&0", 1);
        gives("2<3", 1);
        gives("3<3", 0);
        gives("3=3", 1);
        gives("3>3", 0);
        gives("4>3", 1);
        gives("1+1=2", 1);
        gives("1=1&2=2", 1);
        gives("!5", 0);
        gives("!0", 1);
        gives("!!5", 1);
        gives("!0*5", 5);
        gives("!0+1", 2);
        gives("!(1=2)", 1);
        gives("(2<3)+(3<2)+4", 5);
        gives("20%7*2", 12);
        gives("2*20%7", 5);
        gives("1-2+3", 2);
        CoatsByLot x = new CoatsByLot();
        Due.due("WEIGH without a TEXT: like", x.law(0, 3, 60, 1, 20), 1);
        Due.due("WEIGH without a TEXT: more", x.law(0, 3, 59, 1, 20), 0);
        Due.due("WEIGH without a TEXT: wraps", x.law(0, 1 << 16, 0, 0, 1 << 16), 1);
        Due.due("WEIGH without a TEXT: wraps below", x.law(0, 1 << 16, 0, 0, 1 << 15), 1);
        Due.due("SHIFT RULE without a TEXT", x.law(1, 0, 0, 0, 0), 1);
        Due.due("law use 2", x.law(2, 0, 0, 0, 0), Due.BEYOND);
        Due.due("law use -1", x.law(-1, 0, 0, 0, 0), Due.BEYOND);
        Due.text(x, 1, "n*1000+l*100+g*10+b");
        Due.due("NAMES of USE 1 in order", x.law(1, 1, 2, 3, 4), 1234);
        Due.text(x, 1, "n");
        Due.due("any number", x.law(1, Due.BEYOND, 0, 0, 0), Due.BEYOND);
        Due.due("which is no ERROR", x.told(1), 2);
    }
}
