/** Promises 21 to 28: what was seen and what it tells, storms, ports. */
public final class SeenTest {
    private static final Check check = new Check("SeenTest");
    private static final long BAD = Long.MIN_VALUE + 2;

    public static void main(String[] args) {
        seeing();
        reading();
        nevers();
        whatHeWas();
        asking();
        storms();
        ports();
        check.end();
    }

    private static void seeing() {
        TideMen x = new TideMen();
        int[][] bad = {{-1, 0, 0}, {30, 0, 0}, {0, -1, 0}, {0, 8, 0}, {0, 0, -1}, {0, 0, 1000}};
        for (int n = 1; n <= 8; n++) {
            for (int[] b : bad) {
                check.due("seen(" + b[0] + ", " + b[1] + ", " + b[2] + ")", x.seen(b[0], b[1], b[2]), -2);
            }
            check.due("seen the " + n, n % 2 == 0 ? x.seen(29, 7, 999) : x.seen(0, 0, 0), n);
        }
        check.due("seen a ninth", x.seen(0, 0, 0), -4);
        check.due("seen a bad ninth", x.seen(30, 0, 0), -2);
        check.due("count(7)", x.count(7), 8);
        check.due("forget()", x.forget(), 8);
        check.due("forget() again", x.forget(), 0);
        check.due("count(7)", x.count(7), 0);
    }

    private static void fill(TideMen x, int s, int form, int... items) {
        x.sheet(s, form, items.length);
        for (int i = 0; i < items.length; i++) {
            x.put(s, form, i, items[i]);
        }
    }

    private static void reading() {
        TideMen x = Check.town("a500", "11", "05110");
        check.due("read(-1)", x.read(-1), -2);
        check.due("read(4)", x.read(4), -2);
        check.due("read(0) of a lost one", x.read(0), -11);
        check.due("count(8)", x.count(8), 1);
        fill(x, 0, 0, 5, 0, 10, 29, 0);
        check.due("read(0): one is whole", x.read(0), 1);
        check.due("was(0, 0) of what was read", x.was(0, 0), 0b1111);
        fill(x, 1, 2, 4, 0, 999, 30, 0, 0, 4, 0, 0);
        check.due("read(1): up to the first refused", x.read(1), 1);
        check.due("count(7): behind those that there are", x.count(7), 2);
        check.due("was(0, 0): 999 never comes out", x.was(0, 0), 0);
        fill(x, 2, 1, new int[60]);
        check.due("read(2): until they are full", x.read(2), 6);
        check.due("read(2) when they are full", x.read(2), 0);
        fill(x, 3, 1);
        check.due("read(3) of no items", x.read(3), 0);
        check.due("count(7)", x.count(7), 8);
    }

    private static void nevers() {
        TideMen x = Check.town("a000", "12", "05110;10110");
        check.due("never(): nothing seen", x.never(), 0b11);
        x.seen(29, 0, 10);
        check.due("never(): either", x.never(), 0b11);
        x.seen(5, 0, 0);
        check.due("never(): the first", x.never(), 0b01);
        x.seen(5, 0, 10);
        check.due("never(): neither", x.never(), 0);
        x.forget();
        x.seen(9, 0, 10);
        check.due("never(): the second", x.never(), 0b10);
        x.seen(0, 1, 0);
        check.due("never(): a house that is not there", x.never(), 0);
        check.due("never(): no ships", Check.town("a000", "12", "").never(), 0);
    }

    private static void whatHeWas() {
        TideMen x = Check.town("a530;a000", "12", "05110");
        check.due("was(0, 0): nothing seen", x.was(0, 0), 0b1111);
        check.due("was(0, 1): nothing seen", x.was(0, 1), 0b1111111111);
        x.seen(0, 0, 6);
        check.due("was(0, 0)", x.was(0, 0), 0b0101);
        check.due("was(0, 1)", x.was(0, 1), 1 << 5);
        check.due("was(1, 0)", x.was(1, 0), 0b1111);
        x.forget();
        x.seen(0, 0, 2);
        check.due("was(0, 0): sober", x.was(0, 0), 0b0010);
        check.due("was(0, 1): hardly", x.was(0, 1), 1 << 1);
        x.forget();
        x.seen(4, 0, 0);
        check.due("was(0, 0): dead", x.was(0, 0), 0b1000);
        check.due("was(0, 1): no thirst", x.was(0, 1), 0);
        x.forget();
        x.seen(9, 5, 0);
        check.due("was(0, 0) of a house that is not there", x.was(0, 0), 0);
        int[][] bad = {{-1, 0}, {2, 0}, {0, -1}, {0, 2}};
        for (int[] b : bad) {
            check.due("was(" + b[0] + ", " + b[1] + ")", x.was(b[0], b[1]), -2);
        }
        check.due("his kind stands", x.sailor(0, 0), 0);
    }

    private static void asking() {
        TideMen x = Check.town("a501;a000", "11;11", "05110;06120");
        check.due("ask(4): alike all", x.ask(4), 0);
        check.due("ask(29): house 1 tells them apart", x.ask(29), 1);
        x.seen(29, 1, 20);
        check.due("never()", x.never(), 0b01);
        check.due("ask(29): one ship is left", x.ask(29), 0);
        check.due("ask(-1)", x.ask(-1), -2);
        check.due("ask(30)", x.ask(30), -2);
        check.due("ask(0): no houses", Check.town("a000", "", "05110").ask(0), -1);
        check.due("ask(0): no ships", Check.town("a000", "11;11", "").ask(0), 0);
    }

    private static void stormIs(TideMen x, int c, int day, long above, long below) {
        check.due("storm(" + c + ", 0, " + day + ", 0)", x.storm(c, 0, day, 0), above);
        check.due("storm(" + c + ", 0, " + day + ", 1)", x.storm(c, 0, day, 1), below);
    }

    private static void storms() {
        TideMen x = Check.town("a000", "11", "05110;10110");
        stormIs(x, 5, 4, 0, 1);
        stormIs(x, 5, 5, 5, 16);
        stormIs(x, 5, 10, 135, 256);
        stormIs(x, 8, 5, 1, 2);
        stormIs(x, 8, 29, 3, 4);
        stormIs(x, 16, 29, 1, 1);
        stormIs(x, 0, 29, 0, 1);
        Check.type(x, 2, ";11110;12110;13110;14110");
        stormIs(x, 1, 29, 16777216 - 11390625, 16777216);
        x.wipe(2);
        stormIs(x, 5, 29, 0, 1);
        TideMen y = Check.town("a000;a500", "12", "05110;10110");
        stormIs(y, 4, 29, 1, 16);
        int[][] bad = {{-1, 0, 0, 0}, {17, 0, 0, 0}, {0, -1, 0, 0}, {0, 2, 0, 0}, {0, 0, -1, 0}, {0, 0, 30, 0},
            {0, 0, 0, -1}, {0, 0, 0, 2}};
        for (int[] b : bad) {
            check.due("storm(" + b[0] + ", " + b[1] + ", " + b[2] + ", " + b[3] + ")",
                y.storm(b[0], b[1], b[2], b[3]), BAD);
        }
    }

    private static void ports() {
        // lots of 3 by -1: 1, 2, 1, 2, ..; by 1: 2, 0, ..
        TideMen x = Check.town("a010;a020", "19;19;19", "29900");
        int[][] due = {{-1, 0, 10, 20}, {1, 20, 0, 10}};
        for (int[] d : due) {
            for (int h = 0; h < 3; h++) {
                check.due("port(" + d[0] + ", " + h + ")", x.port(d[0], h), d[1 + h]);
            }
            check.due("port(" + d[0] + ", -1)", x.port(d[0], -1), 2);
        }
        check.due("his house stands", x.sailor(0, 3), 0);
        check.due("port(1, -2)", x.port(1, -2), -2);
        check.due("port(1, 3)", x.port(1, 3), -2);
        // lots of 2 by 3: 1, 1, 1, 0: two beds for the first three
        TideMen y = Check.town("a010;a020;a040;a080", "19;12", "29900");
        check.due("port(3, 0)", y.port(3, 0), 30);
        check.due("port(3, 1)", y.port(3, 1), 30);
        check.due("port(3, -1)", y.port(3, -1), 2);
        check.due("no houses", Check.town("a010", "", "29900").port(3, -1), 0);
    }
}
