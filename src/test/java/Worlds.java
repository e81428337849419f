/** Objects in which something of all stands, to be examined. */
final class Worlds {
    private Worlds() {
    }

    /** Something of all, with an IMAGE that is unlike it; SHEET 3 is missing. */
    static CoatsByLot ordinary() {
        CoatsByLot x = Due.withTrains();
        for (int kind = 0; kind < 8; kind++) {
            x.group(100 * kind + kind % 5, 2 + kind % 3, 10 + kind, 19);
        }
        x.walk(0, 2, 20);
        Due.text(x, 0, "f*q<g*p+n");
        Due.text(x, 1, "n<9&l>0");
        x.shift(3);
        x.shift(4);
        x.shift(16);
        x.lots(0, 3);
        x.lots(1, 2);
        x.days(5);
        Due.feed(x, "1+n*2");
        x.tell(0);
        x.tell(1);
        x.image();
        change(x);
        x.voice(6, 3, 5);
        x.sheet(0, 16, 9);
        x.sheet(1, 8, 5);
        x.sheet(2, 32, 4);
        four(x, 0, 0, 704, 45, 999, 99);
        four(x, 0, 4, 301, 12, 55, 12);
        four(x, 1, 0, 100, 2, 127, 11);
        four(x, 2, 0, 500, 3, 321, 9);
        return x;
    }

    /** All that an IMAGE keeps becomes another. */
    private static void change(CoatsByLot x) {
        x.station();
        x.walk(0, 2, 21);
        x.walk(1, 3, 5);
        x.line(3, 4, 8);
        x.extend(1, 4, 3);
        x.train(2, 700, 1);
        x.group(205, 3, 77, 29);
        x.believe(2, 49);
        x.price(0, 4);
        x.price(1, 50);
        x.text(0);
        Due.text(x, 1, "l+g+b");
        x.shift(32);
        x.lots(0, 2);
        x.lots(3, 4);
        x.days(6);
        x.seed(12345);
        Due.feed(x, "n*3+1-");
        x.check(0);
        x.tell(0);
        x.tell(1);
        x.tell(9);
    }

    /** All that an IMAGE keeps becomes another once more. */
    static void changeAgain(CoatsByLot x) {
        x.station();
        x.walk(0, 2, 7);
        x.walk(1, 3, -1);
        x.extend(0, 3, 9);
        x.line(0, 1, 9);
        x.train(0, 1, 1);
        x.text(0);
        Due.text(x, 0, "f-5");
        Due.text(x, 1, "n");
        x.shift(64);
        for (int shift = 0; shift < 5; shift++) {
            x.lots(shift, 9 - shift);
        }
        x.group(106, 45, 3, 1);
        x.days(30);
        for (int group = 0; group < 10; group++) {
            x.believe(group, 38);
        }
        x.price(0, 99);
        x.price(1, 0);
        x.seed(-7);
        Due.feed(x, "1)");
        x.check(0);
        x.tell(7);
        x.tell(8);
    }

    private static void four(CoatsByLot x, int sheet, int at, int... numbers) {
        for (int i = 0; i < 4; i++) {
            x.put(sheet, at + i, numbers[i]);
        }
    }

    /** As much of all as there can be, on DAY 399; no SHEET is missing. */
    static CoatsByLot full() {
        CoatsByLot x = Due.withStations(8);
        for (int line = 0; line < 4; line++) {
            x.line(line, line + 1, 1);
            for (int i = 2; i < 6; i++) {
                x.extend(line, (line + i) % 8, 1);
            }
        }
        for (int train = 0; train < 12; train++) {
            x.train(0, 99 * train, train % 2);
        }
        x.shift(4095);
        for (int shift = 1; shift < 8; shift++) {
            x.shift(1 << shift);
        }
        for (int shift = 0; shift < 8; shift++) {
            x.lots(shift, 9);
        }
        for (int group = 0; group < 15; group++) {
            x.group(100 * (group % 8) + group % 12, 5, 999, 9);
        }
        x.price(1, 999);
        Edge.pass(x, 349);
        x.image();
        x.days(50);
        x.group(4, 5, 999, 9);
        Due.feed(x, "n+".repeat(25));
        for (int i = 0; i < 20; i++) {
            x.tell(i);
        }
        x.voice(3, 3, 5);
        for (int sheet = 0; sheet < 4; sheet++) {
            x.sheet(sheet, sheet == 3 ? 32 : 8 << sheet, 40);
            four(x, sheet, 0, 100, 1, 50 + sheet, 1);
        }
        return x;
    }
}
