/** Promises 29 to 36: sheets, findings, counts, the digest. */
public final class SheetsTest {
    private static final Check check = new Check("SheetsTest");
    private static final int NULL = -11, INDEX = -12, CAST = -13, STORE = -14, SIZE = -15;
    private static final int LEAST = Integer.MIN_VALUE;

    public static void main(String[] args) {
        makingAndLosing();
        putting();
        getting();
        copying();
        writing();
        counting();
        digesting();
        digestingMuch();
        check.end();
    }

    private static void refused(TideMen x, String call, int got, int due) {
        check.due(call, got, due);
        check.due("count(8) behind " + call, x.count(8), due <= -11 ? -10 - due : 0);
    }

    private static void makingAndLosing() {
        TideMen x = new TideMen();
        refused(x, "sheet(-1, 0, 0)", x.sheet(-1, 0, 0), -2);
        refused(x, "sheet(4, 0, 0)", x.sheet(4, 0, 0), -2);
        refused(x, "sheet(0, -1, 0)", x.sheet(0, -1, 0), -2);
        refused(x, "sheet(0, 3, 0)", x.sheet(0, 3, 0), -2);
        refused(x, "sheet(0, 0, 61)", x.sheet(0, 0, 61), -2);
        refused(x, "sheet(4, 0, -1)", x.sheet(4, 0, -1), -2);
        refused(x, "sheet(0, 0, -1)", x.sheet(0, 0, -1), SIZE);
        refused(x, "sheet(0, 0, least)", x.sheet(0, 0, LEAST), SIZE);
        check.due("still lost", x.lose(0), NULL);
        check.due("sheet(3, 2, 60)", x.sheet(3, 2, 60), 60);
        check.due("sheet(0, 1, 0)", x.sheet(0, 1, 0), 0);
        check.due("get(3, 2, 59)", x.get(3, 2, 59), 0);
        check.due("put(3, 2, 59, 7)", x.put(3, 2, 59, 7), 1);
        check.due("sheet(3, 2, 60) anew", x.sheet(3, 2, 60), 60);
        check.due("get(3, 2, 59) anew", x.get(3, 2, 59), 0);
        check.due("sheet(3, 2, -1) leaves it", x.sheet(3, 2, -1), SIZE);
        check.due("lose(3)", x.lose(3), 60);
        check.due("lose(3) again", x.lose(3), NULL);
        check.due("lose(0)", x.lose(0), 0);
        check.due("lose(-1)", x.lose(-1), -2);
        check.due("lose(4)", x.lose(4), -2);
        check.due("count(8)", x.count(8), 1);
    }

    private static void putting() {
        TideMen x = new TideMen();
        refused(x, "put(-1, 0, 0, 0)", x.put(-1, 0, 0, 0), -2);
        refused(x, "put(4, 0, 0, 0)", x.put(4, 0, 0, 0), -2);
        refused(x, "put(0, -1, 0, 0)", x.put(0, -1, 0, 0), -2);
        refused(x, "put(0, 3, 0, 0)", x.put(0, 3, 0, 0), -2);
        refused(x, "put(0, 0, 9, 0)", x.put(0, 0, 9, 0), NULL);
        x.sheet(0, 0, 3);
        refused(x, "put(0, 1, 9, 0)", x.put(0, 1, 9, 0), CAST);
        refused(x, "put(0, 0, 3, 0)", x.put(0, 0, 3, 0), INDEX);
        refused(x, "put(0, 0, -1, 0)", x.put(0, 0, -1, 0), INDEX);
        int[][] held = {{0, 127, 127}, {0, 128, -128}, {0, 256, 0}, {0, -129, 127}, {1, 32767, 32767},
            {1, 32768, -32768}, {1, 65536, 0}, {2, LEAST, LEAST}, {2, 65536, 65536}, {2, -1, -1}};
        for (int[] h : held) {
            x.sheet(1, h[0], 1);
            check.due("put(1, " + h[0] + ", 0, " + h[1] + ")", x.put(1, h[0], 0, h[1]), 1);
            check.due("get of it", x.get(1, h[0], 0), h[2]);
        }
    }

    private static void getting() {
        TideMen x = new TideMen();
        check.due("get(-1, 0, 0)", x.get(-1, 0, 0), LEAST);
        check.due("get(4, 0, 0)", x.get(4, 0, 0), LEAST);
        check.due("get(0, -1, 0)", x.get(0, -1, 0), LEAST);
        check.due("get(0, 3, 0)", x.get(0, 3, 0), LEAST);
        check.due("count(8): BAD is no finding", x.count(8), 0);
        check.due("get(0, 0, 0)", x.get(0, 0, 0), LEAST);
        check.due("count(8): NULL", x.count(8), 1);
        x.sheet(0, 1, 2);
        check.due("get(0, 0, 2)", x.get(0, 0, 2), LEAST);
        check.due("count(8): CAST", x.count(8), 3);
        check.due("get(0, 1, 2)", x.get(0, 1, 2), LEAST);
        check.due("count(8): INDEX", x.count(8), 2);
        check.due("get(0, 1, 1)", x.get(0, 1, 1), 0);
        check.due("count(8) stays", x.count(8), 2);
        check.due("get(0, 1, -1)", x.get(0, 1, -1), LEAST);
    }

    private static void copying() {
        TideMen x = new TideMen();
        refused(x, "copy(-1, 0, 0, 0, 0)", x.copy(-1, 0, 0, 0, 0), -2);
        refused(x, "copy(4, 0, 0, 0, 0)", x.copy(4, 0, 0, 0, 0), -2);
        refused(x, "copy(0, 0, -1, 0, 0)", x.copy(0, 0, -1, 0, 0), -2);
        refused(x, "copy(0, 0, 4, 0, 0)", x.copy(0, 0, 4, 0, 0), -2);
        x.sheet(0, 2, 5);
        x.sheet(2, 1, 5);
        x.sheet(3, 2, 3);
        refused(x, "copy(0, 9, 1, 0, 0)", x.copy(0, 9, 1, 0, 0), NULL);
        refused(x, "copy(0, 9, 2, 0, 0)", x.copy(0, 9, 2, 0, 0), STORE);
        refused(x, "copy(1, 0, 0, 0, 0)", x.copy(1, 0, 0, 0, 0), NULL);
        int[][] bad = {{-1, 0, 0}, {0, -1, 0}, {0, 0, -1}, {0, 0, 4}, {5, 0, 1}, {0, 3, 1}, {6, 0, 0}, {0, 4, 0},
            {1, 0, Integer.MAX_VALUE}, {Integer.MAX_VALUE, 0, 1}, {0, Integer.MAX_VALUE, 1}, {0, 0, LEAST}};
        for (int[] b : bad) {
            String row = b[0] + ", 3, " + b[1] + ", " + b[2];
            refused(x, "copy(0, " + row + ")", x.copy(0, b[0], 3, b[1], b[2]), INDEX);
        }
        check.due("copy of none at the ends", x.copy(0, 5, 3, 3, 0), 1);
        for (int i = 0; i < 5; i++) {
            x.put(0, 2, i, 10 + i);
        }
        check.due("copy(0, 1, 3, 0, 3)", x.copy(0, 1, 3, 0, 3), 1);
        check.due("copy(0, 0, 0, 1, 4)", x.copy(0, 0, 0, 1, 4), 1);
        int[] own = {10, 10, 11, 12, 13};
        for (int i = 0; i < 5; i++) {
            check.due("copied onto itself, " + i, x.get(0, 2, i), own[i]);
        }
        for (int i = 0; i < 3; i++) {
            check.due("copied, " + i, x.get(3, 2, i), 11 + i);
        }
        check.due("copy(0, 2, 0, 0, 3)", x.copy(0, 2, 0, 0, 3), 1);
        check.due("copied back", x.get(0, 2, 0), 11);
    }

    private static void writing() {
        TideMen x = Check.town("a900;a500;d000", "93", "");
        refused(x, "write(-1, 0)", x.write(-1, 0), -2);
        refused(x, "write(30, 0)", x.write(30, 0), -2);
        refused(x, "write(0, -1)", x.write(0, -1), -2);
        refused(x, "write(0, 4)", x.write(0, 4), -2);
        refused(x, "write(0, 0)", x.write(0, 0), NULL);
        x.sheet(0, 0, 2);
        check.due("write(9, 0): no more items", x.write(9, 0), 2);
        check.due("180 as a byte", x.get(0, 0, 0), 180 - 256);
        check.due("140 as a byte", x.get(0, 0, 1), 140 - 256);
        x.sheet(1, 1, 5);
        x.put(1, 1, 3, 77);
        check.due("write(29, 1): no more sailors", x.write(29, 1), 3);
        int[] due = {540, 420, 1, 77, 0};
        for (int i = 0; i < 5; i++) {
            check.due("written, " + i, x.get(1, 1, i), due[i]);
        }
        x.wipe(0);
        check.due("write(0, 1): no sailors", x.write(0, 1), 0);
    }

    private static void counting() {
        TideMen x = Check.town("a000;a000;d000", "12;11", "05110");
        x.seen(0, 0, 0);
        x.lose(2);
        int[] due = {3, 2, 1, 14, 5, 5, 1, 1, 1};
        for (int what = 0; what < 9; what++) {
            check.due("count(" + what + ")", x.count(what), due[what]);
        }
        check.due("count(-1)", x.count(-1), -2);
        check.due("count(9)", x.count(9), -2);
    }

    private static long digestOf(long... told) {
        long h = 17;
        for (long t : told) {
            h = 31 * h + t;
        }
        return h;
    }

    private static void digesting() {
        TideMen x = new TideMen();
        check.due("digest() of a new object", x.digest(),
            digestOf(0, 0, 0, 0, 0, 0, 0, 0, -1, -1, -1, -1, -1, -1, 0, -1, -1, 0));
        TideMen y = Check.town("a210", "31", "05140");
        y.seen(29, 0, 10);
        check.due("digest() of one of each", y.digest(), digestOf(
            1, 1, 1, 4, 2, 5, 1, 1,
            -1, -1, -1,
            0, 2, 1, 0, 0, 0, 0, 8, 8, 0, 5, 1, 0, 0, 0, 5, 16,
            3, 1, 50, 0, 50, 0, 1, 50, 50,
            5, 1, 4, 0, 1, 0, 1, 1, 0, 0,
            0, 0, 0, 1, 0, 0, 1));
        long ahead = y.digest();
        y.lose(0);
        check.due("a finding is not in it", y.digest(), ahead);
        y.undo(2);
        y.undo(1);
        check.due("digest() of texts with faults", y.digest(), digestOf(
            1, 0, 0, 4, 1, 4, 0, 1,
            -1, 1, 4,
            0, 2, 1, 0, 0, 0, 10, -1, -1, -1, -1, 0, -1, 0, 0, 0, 1,
            -1, -1, -1, 0, -1, -1, 0));
    }

    // tides on days 9 and 20, so that each day named in the digest has a neighbour that would tell other things
    private static void digestingMuch() {
        for (int many = 0; many < 3; many++) {
            TideMen x = Check.town("a501;a401;t215;s910;d350;a000", "13;32;51", "09110;09121;20992");
            check.due("ask(8)", x.ask(8), 0);
            check.due("ask(9)", x.ask(9), 1);
            for (int n = 0; n < many; n++) x.seen(9, 0, x.takes(9, 0, 0) + n);
            check.due("digest() with " + many + " seen", x.digest(), digestFrom(x));
        }
    }

    private static long digestFrom(TideMen x) {
        long h = 17;
        for (int what = 0; what < 8; what++) h = 31 * h + x.count(what);
        for (int text = 0; text < 3; text++) h = 31 * h + x.fault(text);
        for (int s = 0; s < x.count(0); s++) {
            for (long told : new long[] {x.sailor(s, 0), x.sailor(s, 1), x.sailor(s, 2), x.sailor(s, 3), x.owes(9, s),
                x.owes(29, s), x.purse(9, s), x.where(9, s), x.where(29, s), x.lodge(s, 0), x.lodge(s, 1),
                x.leave(s, -1), x.leave(s, 0), x.was(s, 0), x.was(s, 1), x.storm(5, s, 20, 0), x.storm(5, s, 20, 1)}) {
                h = 31 * h + told;
            }
        }
        for (int s = 0; s < x.count(1); s++) {
            for (long told : new long[] {x.house(s, 0), x.house(s, 1), x.takes(9, s, 0), x.takes(9, s, 1),
                x.takes(29, s, 0), x.takes(29, s, 1), x.price(s, 0), x.price(s, 1), x.port(7, s)}) {
                h = 31 * h + told;
            }
        }
        for (int s = 0; s < x.count(2); s++) {
            for (long told : new long[] {x.ship(s, 0), x.ship(s, 1), x.ship(s, 2), x.ship(s, 3), x.crew(s, 0),
                x.crew(s, 1), x.crew(s, 2), x.crew(s, 3), x.crew(s, 4), x.look(s)}) {
                h = 31 * h + told;
            }
        }
        for (long told : new long[] {x.richest(9), x.richest(29), x.last(), x.never(), x.ask(9), x.ask(29),
            x.port(7, -1)}) {
            h = 31 * h + told;
        }
        return h;
    }
}
