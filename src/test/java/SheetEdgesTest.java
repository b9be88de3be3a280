import java.math.BigInteger;
import java.util.ArrayList;
import java.util.List;

/** Promises 29 to 36, at their edges: above each test stands the sentence of the document that it looks at. */
public final class SheetEdgesTest {
    private static final Check check = new Check("SheetEdgesTest");
    private static final int BAD = -2, NULL = -11, INDEX = -12, CAST = -13, STORE = -14, SIZE = -15;
    private static final int LEAST = Integer.MIN_VALUE, MOST = Integer.MAX_VALUE;
    private static final int[] NO_SHEETS = {-1, 4, LEAST, MOST}, NO_FORMS = {-1, 3, LEAST, MOST};

    public static void main(String[] args) {
        sheetsFrom0To3();
        lostAtFirst();
        formsFrom0To2();
        itemsFrom0To60();
        itemsAre0AtFirst();
        sizeBelow0();
        losing();
        bytesHoldTheirLowestBits();
        shortsHoldTheirLowestBits();
        intsHoldAll();
        puttingAtTheEnds();
        puttingIntoNoItems();
        puttingAsAnotherForm();
        gettingAtTheEnds();
        gettingTheLeastInt();
        gettingRefused();
        copyingAll();
        copyingNone();
        copyingBeyond();
        copyingBelow0();
        copyingOntoItself();
        copyingUnlikeForms();
        copyingLostOnes();
        copyingNoSheets();
        writingAsManyAsThereAreItems();
        writingAsManyAsThereAreSailors();
        writingTheLowestBits();
        writingEachDay();
        writingRefused();
        countsFrom0To8();
        latestFinding();
        digestOfNothing();
        digestWraps();
        digestOfItsDays();
        digestOfEachThing();
        check.end();
    }

    // "SHEETS 0 .. 3": no other: BAD
    private static void sheetsFrom0To3() {
        TideMen x = new TideMen();
        for (int s = 0; s < 4; s++) check.due("sheet(" + s + ", 2, 5)", x.sheet(s, 2, 5 + s), 5 + s);
        for (int s : NO_SHEETS) {
            check.due("sheet(" + s + ", 0, 0)", x.sheet(s, 0, 0), BAD);
            check.due("lose(" + s + ")", x.lose(s), BAD);
            check.due("put(" + s + ", 0, 0, 0)", x.put(s, 0, 0, 0), BAD);
            check.due("get(" + s + ", 0, 0)", x.get(s, 0, 0), LEAST);
            check.due("write(0, " + s + ")", x.write(0, s), BAD);
        }
        check.due("count(8)", x.count(8), 0);
        for (int s = 0; s < 4; s++) check.due("lose(" + s + ")", x.lose(s), 5 + s);
    }

    // SHEETS "are LOST (at first)"
    private static void lostAtFirst() {
        for (int s = 0; s < 4; s++) {
            TideMen x = new TideMen();
            for (int form = 0; form < 3; form++) {
                check.due("put(" + s + ", " + form + ", 0, 1)", x.put(s, form, 0, 1), NULL);
                check.due("get(" + s + ", " + form + ", 0)", x.get(s, form, 0), LEAST);
            }
            check.due("lose(" + s + ")", x.lose(s), NULL);
            check.due("read(" + s + ")", x.read(s), NULL);
            check.due("write(0, " + s + ")", x.write(0, s), NULL);
        }
    }

    // "a row of a FORM: 0 bytes, 1 shorts, 2 ints": no other: BAD
    private static void formsFrom0To2() {
        TideMen x = new TideMen();
        for (int form = 0; form < 3; form++) {
            check.due("sheet(0, " + form + ", 1)", x.sheet(0, form, 1), 1);
            for (int other = 0; other < 3; other++) {
                check.due("put(0, " + other + ", 0, 1)", x.put(0, other, 0, 1), other == form ? 1 : CAST);
            }
            for (int bad : NO_FORMS) {
                check.due("sheet(0, " + bad + ", 9)", x.sheet(0, bad, 9), BAD);
                check.due("put(0, " + bad + ", 0, 5)", x.put(0, bad, 0, 5), BAD);
                check.due("get(0, " + bad + ", 0)", x.get(0, bad, 0), LEAST);
            }
            check.due("it stands", x.get(0, form, 0), 1);
        }
    }

    // "of 0 to 60 items"; "BAD: .. above 60"
    private static void itemsFrom0To60() {
        TideMen x = new TideMen();
        for (int form = 0; form < 3; form++) {
            for (int n = 0; n <= 60; n++) check.due("sheet(1, " + form + ", " + n + ")", x.sheet(1, form, n), n);
            check.due("sheet(1, " + form + ", 61)", x.sheet(1, form, 61), BAD);
            check.due("sheet(1, " + form + ", most)", x.sheet(1, form, MOST), BAD);
            check.due("lose(1): the 60 items", x.lose(1), 60);
        }
        check.due("sheet(1, 0, 61) of a lost one", x.sheet(1, 0, 61), BAD);
        check.due("it is lost still", x.lose(1), NULL);
    }

    // "(0 at first)"; "A SHEET is a new row"
    private static void itemsAre0AtFirst() {
        for (int form = 0; form < 3; form++) {
            TideMen x = new TideMen();
            x.sheet(2, 2, 60);
            for (int i = 0; i < 60; i++) x.put(2, 2, i, -1 - i);
            x.sheet(2, form, 60);
            for (int i = 0; i < 60; i++) check.due("get(2, " + form + ", " + i + ")", x.get(2, form, i), 0);
        }
        TideMen y = new TideMen();
        Check.fill(y, 0, 2, 1, 2, 3);
        y.lose(0);
        y.sheet(0, 2, 3);
        for (int i = 0; i < 3; i++) check.due("behind lose(): get(0, 2, " + i + ")", y.get(0, 2, i), 0);
        y.put(0, 2, 2, 9);
        y.sheet(0, 2, 2);
        y.sheet(0, 2, 3);
        check.due("a shorter one between", y.get(0, 2, 2), 0);
    }

    // "5 SIZE: below 0"
    private static void sizeBelow0() {
        TideMen x = new TideMen();
        Check.fill(x, 0, 1, 7, 8);
        for (int n : new int[] {-1, LEAST}) {
            check.due("sheet(0, 2, " + n + ")", x.sheet(0, 2, n), SIZE);
            check.due("sheet(1, 2, " + n + ") of a lost one", x.sheet(1, 2, n), SIZE);
        }
        check.due("count(8)", x.count(8), 5);
        check.due("it stands", x.get(0, 1, 1), 8);
        check.due("it is lost still", x.lose(1), NULL);
    }

    // lose(): "It is LOST: how many items it had. BAD; NULL."
    private static void losing() {
        TideMen x = new TideMen();
        x.sheet(0, 0, 0);
        x.sheet(3, 2, 60);
        check.due("lose(0) of no items", x.lose(0), 0);
        check.due("lose(3) of 60 items", x.lose(3), 60);
        for (int s = 0; s < 4; s++) check.due("lose(" + s + ") of a lost one", x.lose(s), NULL);
        check.due("put(3, 2, 0, 1)", x.put(3, 2, 0, 1), NULL);
        check.due("count(8)", x.count(8), 1);
    }

    private static void holds(int form, int v, int due) {
        TideMen x = new TideMen();
        x.sheet(0, form, 3);
        check.due("put(0, " + form + ", 1, " + v + ")", x.put(0, form, 1, v), 1);
        check.due("get of it", x.get(0, form, 1), due);
        check.due("get of the one ahead", x.get(0, form, 0), 0);
        check.due("get of the one behind", x.get(0, form, 2), 0);
    }

    // put(): "becomes v (the lowest bits that it has, with its sign ..)": bytes
    private static void bytesHoldTheirLowestBits() {
        int[][] held = {{0, 0}, {-1, -1}, {127, 127}, {128, -128}, {-128, -128}, {-129, 127}, {255, -1}, {256, 0},
            {-256, 0}, {32768, 0}, {0x12345, 0x45}, {MOST, -1}, {LEAST, 0}};
        for (int[] h : held) holds(0, h[0], h[1]);
    }

    // the same: shorts
    private static void shortsHoldTheirLowestBits() {
        int[][] held = {{0, 0}, {-1, -1}, {255, 255}, {32767, 32767}, {32768, -32768}, {-32768, -32768},
            {-32769, 32767}, {65535, -1}, {65536, 0}, {-65536, 0}, {0x123456, 0x3456}, {MOST, -1}, {LEAST, 0}};
        for (int[] h : held) holds(1, h[0], h[1]);
    }

    // the same: ints
    private static void intsHoldAll() {
        for (int v : new int[] {0, -1, 255, 32768, 65536, -65537, MOST, LEAST, LEAST + 1}) holds(2, v, v);
    }

    // "2 INDEX: there is no such item": put()
    private static void puttingAtTheEnds() {
        for (int n : new int[] {1, 5, 60}) {
            TideMen x = new TideMen();
            x.sheet(0, 2, 60);
            x.sheet(0, 2, n);
            check.due("put at 0 of " + n, x.put(0, 2, 0, 7), 1);
            check.due("put at the last of " + n, x.put(0, 2, n - 1, 9), 1);
            for (int i : new int[] {-1, n, 60, 61, LEAST, MOST}) {
                check.due("put at " + i + " of " + n, x.put(0, 2, i, 5), INDEX);
            }
            check.due("count(8)", x.count(8), 2);
            check.due("the last stands", x.get(0, 2, n - 1), 9);
            check.due("lose(0)", x.lose(0), n);
        }
    }

    // the same: a row of 0 items has no item 0
    private static void puttingIntoNoItems() {
        TideMen x = new TideMen();
        x.sheet(0, 0, 0);
        check.due("put(0, 0, 0, 1)", x.put(0, 0, 0, 1), INDEX);
        check.due("get(0, 0, 0)", x.get(0, 0, 0), LEAST);
        check.due("put(0, 1, 0, 1)", x.put(0, 1, 0, 1), CAST);
    }

    // put(): "BAD; NULL; CAST; INDEX": the first that fits
    private static void puttingAsAnotherForm() {
        TideMen x = new TideMen();
        x.sheet(0, 1, 2);
        check.due("no such form, ahead of all", x.put(1, 3, 9, 0), BAD);
        check.due("lost, ahead of the form and the item", x.put(1, 0, 9, 0), NULL);
        check.due("another form, ahead of the item", x.put(0, 0, 9, 0), CAST);
        check.due("another form", x.put(0, 2, 0, 5), CAST);
        check.due("no such item", x.put(0, 1, 2, 0), INDEX);
        check.due("it stands", x.get(0, 1, 0), 0);
    }

    // get(): "Item i of it."
    private static void gettingAtTheEnds() {
        for (int form = 0; form < 3; form++) {
            TideMen x = new TideMen();
            x.sheet(0, form, 60);
            x.put(0, form, 0, 11);
            x.put(0, form, 59, 12);
            check.due("get(0, " + form + ", 0)", x.get(0, form, 0), 11);
            check.due("get(0, " + form + ", 59)", x.get(0, form, 59), 12);
            check.due("count(8)", x.count(8), 0);
            for (int i : new int[] {-1, 60, LEAST, MOST}) {
                check.due("get(0, " + form + ", " + i + ")", x.get(0, form, i), LEAST);
                check.due("count(8)", x.count(8), 2);
            }
        }
    }

    // "(count() 8 tells)": an item that is the least int is no finding
    private static void gettingTheLeastInt() {
        TideMen x = new TideMen();
        Check.fill(x, 0, 2, LEAST);
        check.due("get(0, 2, 0)", x.get(0, 2, 0), LEAST);
        check.due("count(8)", x.count(8), 0);
    }

    // get(): "BAD: the least int; so are NULL, CAST, INDEX (count() 8 tells)": the first that fits
    private static void gettingRefused() {
        int[][] rows = {{0, 3, 9, 0}, {4, 1, 0, 0}, {1, 0, 9, 1}, {0, 0, 9, 3}, {0, 2, 0, 3}, {0, 1, 2, 2},
            {0, 1, -1, 2}};
        for (int[] r : rows) {
            TideMen x = new TideMen();
            Check.fill(x, 0, 1, 5, 6);
            check.due("get(" + r[0] + ", " + r[1] + ", " + r[2] + ")", x.get(r[0], r[1], r[2]), LEAST);
            check.due("count(8)", x.count(8), r[3]);
        }
        TideMen y = new TideMen();
        Check.fill(y, 0, 1, 5, 6);
        y.get(0, 1, 2);
        y.get(0, 3, 0);
        check.due("BAD is no finding: count(8) stays", y.count(8), 2);
    }

    // copy(): "n items of SHEET s, from i on, come to SHEET t, from j on": up to the last of both
    private static void copyingAll() {
        TideMen x = new TideMen();
        x.sheet(0, 0, 60);
        x.sheet(1, 0, 60);
        for (int i = 0; i < 60; i++) x.put(0, 0, i, i + 1);
        check.due("copy(0, 0, 1, 0, 60)", x.copy(0, 0, 1, 0, 60), 1);
        for (int i = 0; i < 60; i++) check.due("get(1, 0, " + i + ")", x.get(1, 0, i), i + 1);
        check.due("copy(0, 59, 1, 0, 1)", x.copy(0, 59, 1, 0, 1), 1);
        check.due("copy(0, 0, 1, 59, 1)", x.copy(0, 0, 1, 59, 1), 1);
        check.due("get(1, 0, 0)", x.get(1, 0, 0), 60);
        check.due("get(1, 0, 1)", x.get(1, 0, 1), 2);
        check.due("get(1, 0, 59)", x.get(1, 0, 59), 1);
        check.due("get(1, 0, 58)", x.get(1, 0, 58), 59);
        check.due("get(0, 0, 0): that stands", x.get(0, 0, 0), 1);
    }

    private static TideMen threeAndFive() {
        TideMen x = new TideMen();
        Check.fill(x, 0, 2, 1, 2, 3);
        Check.fill(x, 1, 2, 11, 12, 13, 14, 15);
        return x;
    }

    private static void copyIs(int i, int j, int n, int due) {
        TideMen x = threeAndFive();
        String call = "copy(0, " + i + ", 1, " + j + ", " + n + ")";
        check.due(call, x.copy(0, i, 1, j, n), due);
        check.due("count(8) behind " + call, x.count(8), due == 1 ? 0 : -10 - due);
        for (int k = 0; k < 5; k++) {
            boolean isNew = due == 1 && k >= j && k < j + n;
            check.due("item " + k + " behind " + call, x.get(1, 2, k), isNew ? 1 + i + k - j : 11 + k);
        }
    }

    // "(of n 0, too: i or j above the size)": at the size it is well
    private static void copyingNone() {
        copyIs(0, 0, 0, 1);
        copyIs(3, 5, 0, 1);
        copyIs(3, 0, 0, 1);
        copyIs(0, 5, 0, 1);
        copyIs(4, 0, 0, INDEX);
        copyIs(0, 6, 0, INDEX);
        copyIs(-1, 0, 0, INDEX);
        copyIs(0, -1, 0, INDEX);
        copyIs(MOST, 0, 0, INDEX);
        copyIs(0, MOST, 0, INDEX);
        TideMen x = new TideMen();
        x.sheet(0, 1, 0);
        x.sheet(1, 1, 0);
        check.due("of two without items", x.copy(0, 0, 1, 0, 0), 1);
        check.due("one of them", x.copy(0, 0, 1, 0, 1), INDEX);
    }

    // "INDEX: .. not so many there"
    private static void copyingBeyond() {
        copyIs(0, 0, 3, 1);
        copyIs(0, 0, 4, INDEX);
        copyIs(0, 2, 3, 1);
        copyIs(0, 3, 3, INDEX);
        copyIs(0, 3, 2, 1);
        copyIs(1, 0, 2, 1);
        copyIs(1, 0, 3, INDEX);
        copyIs(2, 4, 1, 1);
        copyIs(3, 4, 1, INDEX);
        copyIs(2, 5, 1, INDEX);
        copyIs(0, 0, MOST, INDEX);
        copyIs(1, 1, MOST, INDEX);
        copyIs(MOST, 0, 1, INDEX);
        copyIs(0, MOST, 1, INDEX);
        copyIs(MOST, MOST, MOST, INDEX);
    }

    // "INDEX: i, j or n below 0"
    private static void copyingBelow0() {
        for (int low : new int[] {-1, LEAST, LEAST + 1}) {
            copyIs(low, 0, 1, INDEX);
            copyIs(0, low, 1, INDEX);
            copyIs(0, 0, low, INDEX);
            copyIs(low, low, low, INDEX);
            copyIs(1, 1, low, INDEX);
        }
    }

    // "(perhaps s, as they were)": both ways
    private static void copyingOntoItself() {
        int[][] due = {{0, 1, 4, 11, 11, 12, 13, 14}, {1, 0, 4, 12, 13, 14, 15, 15}, {0, 0, 5, 11, 12, 13, 14, 15},
            {0, 2, 3, 11, 12, 11, 12, 13}, {2, 0, 3, 13, 14, 15, 14, 15}};
        for (int form = 0; form < 3; form++) {
            for (int[] d : due) {
                TideMen x = new TideMen();
                Check.fill(x, 3, form, 11, 12, 13, 14, 15);
                check.due("copy onto itself", x.copy(3, d[0], 3, d[1], d[2]), 1);
                for (int k = 0; k < 5; k++) check.due("item " + k, x.get(3, form, k), d[3 + k]);
            }
        }
    }

    // "4 STORE: unlike FORMS": ahead of INDEX
    private static void copyingUnlikeForms() {
        for (int a = 0; a < 3; a++) {
            for (int b = 0; b < 3; b++) {
                TideMen x = new TideMen();
                x.sheet(0, a, 2);
                x.sheet(1, b, 2);
                check.due("copy of forms " + a + " and " + b, x.copy(0, 0, 1, 0, 2), a == b ? 1 : STORE);
                check.due("of no items", x.copy(0, 0, 1, 0, 0), a == b ? 1 : STORE);
                check.due("of too many", x.copy(0, 0, 1, 0, 3), a == b ? INDEX : STORE);
                check.due("count(8)", x.count(8), a == b ? 2 : 4);
            }
        }
    }

    // "NULL: s, t": ahead of STORE and INDEX
    private static void copyingLostOnes() {
        TideMen x = new TideMen();
        x.sheet(0, 1, 2);
        check.due("s is lost", x.copy(3, 0, 0, 0, 1), NULL);
        check.due("t is lost", x.copy(0, 0, 3, 0, 1), NULL);
        check.due("both are lost", x.copy(2, 0, 3, 0, 1), NULL);
        check.due("it is lost itself", x.copy(3, 0, 3, 0, 0), NULL);
        check.due("no such items either", x.copy(0, 9, 3, -1, -1), NULL);
        check.due("count(8)", x.count(8), 1);
        check.due("it is lost still", x.lose(3), NULL);
    }

    // "BAD: the SHEETS": ahead of NULL
    private static void copyingNoSheets() {
        TideMen x = new TideMen();
        x.sheet(0, 1, 2);
        for (int s : NO_SHEETS) {
            check.due("copy(" + s + ", 0, 0, 0, 0)", x.copy(s, 0, 0, 0, 0), BAD);
            check.due("copy(0, 0, " + s + ", 0, 0)", x.copy(0, 0, s, 0, 0), BAD);
            check.due("copy(" + s + ", 0, 3, 0, 0)", x.copy(s, 0, 3, 0, 0), BAD);
            check.due("copy(3, 0, " + s + ", 0, 0)", x.copy(3, 0, s, 0, 0), BAD);
        }
        check.due("count(8)", x.count(8), 0);
    }

    // write(): "as many as there are items": 0 and fewer than SAILORS
    private static void writingAsManyAsThereAreItems() {
        TideMen x = Check.town("a000;a100;a200", "13", "");
        x.sheet(0, 2, 0);
        check.due("write(0, 0) of no items", x.write(0, 0), 0);
        x.sheet(0, 2, 2);
        check.due("write(0, 0) of two items", x.write(0, 0), 2);
        check.due("get(0, 2, 0)", x.get(0, 2, 0), 1);
        check.due("get(0, 2, 1)", x.get(0, 2, 1), 2);
        check.due("lose(0)", x.lose(0), 2);
    }

    // "and SAILORS": 0, 8, with as many items and with one more
    private static void writingAsManyAsThereAreSailors() {
        TideMen x = Check.town("a000;a100;a200;a300;a400;a500;a600;a700", "19", "");
        x.sheet(0, 2, 8);
        check.due("write(0, 0) of 8 items", x.write(0, 0), 8);
        check.due("get(0, 2, 7)", x.get(0, 2, 7), 8);
        Check.fill(x, 0, 2, 9, 9, 9, 9, 9, 9, 9, 9, 77);
        check.due("write(0, 0) of 9 items", x.write(0, 0), 8);
        check.due("get(0, 2, 7)", x.get(0, 2, 7), 8);
        check.due("get(0, 2, 8) stands", x.get(0, 2, 8), 77);
        x.type(0, 'x');
        x.undo(0);
        check.due("write(0, 0) with a fault", x.write(0, 0), 0);
        x.wipe(0);
        check.due("write(0, 0) of no sailors", x.write(0, 0), 0);
        check.due("get(0, 2, 0) stands", x.get(0, 2, 0), 1);
    }

    // "(the lowest bits that it has, with its sign; by write(), too)": 126, 128 and 256 as bytes
    private static void writingTheLowestBits() {
        TideMen x = Check.town("a800;a600;a700", "03", "");
        for (int form = 0; form < 3; form++) {
            x.sheet(0, form, 3);
            check.due("write(15, 0)", x.write(15, 0), 3);
            check.due("128 in form " + form, x.get(0, form, 0), form == 0 ? -128 : 128);
            check.due("96 in form " + form, x.get(0, form, 1), 96);
            x.write(17, 0);
            check.due("126 in form " + form, x.get(0, form, 2), 126);
        }
        TideMen y = Check.town("a800", "82", "");
        y.sheet(0, 0, 1);
        y.write(15, 0);
        check.due("256 as a byte", y.get(0, 0, 0), 0);
    }

    // write(): "behind a DAY": 0 to 29
    private static void writingEachDay() {
        TideMen x = Check.town("a000", "11", "");
        x.sheet(0, 0, 1);
        check.due("write(29, 0)", x.write(29, 0), 1);
        check.due("get(0, 0, 0)", x.get(0, 0, 0), 30);
        check.due("write(0, 0)", x.write(0, 0), 1);
        check.due("get(0, 0, 0)", x.get(0, 0, 0), 1);
        for (int day : new int[] {-1, 30, LEAST, MOST}) check.due("write(" + day + ", 0)", x.write(day, 0), BAD);
        check.due("get(0, 0, 0) stands", x.get(0, 0, 0), 1);
    }

    // write(): "BAD; NULL."
    private static void writingRefused() {
        TideMen x = Check.town("a000", "11", "");
        check.due("no day, ahead of a lost one", x.write(30, 0), BAD);
        check.due("count(8)", x.count(8), 0);
        check.due("a lost one", x.write(0, 0), NULL);
        check.due("count(8)", x.count(8), 1);
        check.due("a lost one, of no sailors", new TideMen().write(0, 3), NULL);
    }

    // count(): "0 SAILORS .. 8 the number of the latest FINDING (0 before any). BAD."
    private static void countsFrom0To8() {
        TideMen x = Check.town("d000;a000;a000", "14;11", "00100");
        x.seen(0, 0, 0);
        x.put(0, 0, 0, 0);
        int[] due = {3, 2, 1, 14, 5, 5, 1, 1, 1};
        for (int what = 0; what < 9; what++) check.due("count(" + what + ")", x.count(what), due[what]);
        for (int what : new int[] {-1, 9, LEAST, MOST}) check.due("count(" + what + ")", x.count(what), BAD);
        TideMen y = Check.town("d000;d000;d000;d000;d000;d000;d000;d000", "11;11;11;11;11;11;11;19",
            "29900;00900;29900");
        check.due("SAILORS that SAIL: one", y.count(6), 1);
        y.wipe(1);
        Check.type(y, 1, "19");
        check.due("SAILORS that SAIL: all", y.count(6), 8);
    }

    // "8 the number of the latest FINDING (0 before any)"; "answers -10 less the number"
    private static void latestFinding() {
        TideMen x = new TideMen();
        check.due("before any", x.count(8), 0);
        x.type(9, 9);
        x.undo(0);
        x.sheet(9, 9, 99);
        check.due("BAD and NOT are none", x.count(8), 0);
        check.due("NULL", x.lose(0), -10 - 1);
        check.due("1", x.count(8), 1);
        x.sheet(0, 0, 1);
        check.due("INDEX", x.put(0, 0, 1, 0), -10 - 2);
        check.due("2", x.count(8), 2);
        check.due("CAST", x.put(0, 1, 0, 0), -10 - 3);
        check.due("3", x.count(8), 3);
        x.sheet(1, 1, 1);
        check.due("STORE", x.copy(0, 0, 1, 0, 1), -10 - 4);
        check.due("4", x.count(8), 4);
        check.due("SIZE", x.sheet(0, 0, -1), -10 - 5);
        check.due("5", x.count(8), 5);
        x.get(0, 0, 0);
        x.put(0, 0, 0, 0);
        x.lose(0);
        check.due("what is not refused leaves it", x.count(8), 5);
        check.due("NULL again", x.lose(0), NULL);
        check.due("1 again", x.count(8), 1);
    }

    private static long wrapped(long... told) {
        BigInteger h = BigInteger.valueOf(17);
        for (long t : told) h = h.multiply(BigInteger.valueOf(31)).add(BigInteger.valueOf(t));
        return h.longValue();
    }

    // digest() of no SAILORS, HOUSES and SHIPS
    private static void digestOfNothing() {
        check.due("digest() of a new object", new TideMen().digest(),
            wrapped(0, 0, 0, 0, 0, 0, 0, 0, -1, -1, -1, -1, -1, -1, 0, -1, -1, 0));
    }

    // digest(): "as longs that wrap": what it tells of one of each, by numbers without a bound
    private static void digestWraps() {
        TideMen x = Check.town("d000", "11", "00191");
        check.due("digest() of one of each", x.digest(), wrapped(
            1, 1, 1, 4, 2, 5, 0, 0,
            -1, -1, -1,
            3, 0, 0, 0, 1, 1, 0, 0, 0, 0, -1, 0, -1, 15, 1023, 0, 1,
            1, 1, 0, 1, 0, 1, 0, 0, 0,
            0, 1, 9, 1, 1, 1, 0, 0, 1, 1,
            0, 0, -1, 1, 0, 0, 0));
    }

    private static void tell(List<Long> told, long... more) {
        for (long m : more) told.add(m);
    }

    private static long digestFrom(TideMen x) {
        List<Long> told = new ArrayList<>();
        for (int what = 0; what <= 7; what++) tell(told, x.count(what));
        for (int text = 0; text < 3; text++) tell(told, x.fault(text));
        int men = x.count(0), inns = x.count(1), fleet = x.count(2);
        for (int it = 0; it < men; it++) {
            tell(told, x.sailor(it, 0), x.sailor(it, 1), x.sailor(it, 2), x.sailor(it, 3));
            tell(told, x.owes(9, it), x.owes(29, it), x.purse(9, it), x.where(9, it), x.where(29, it));
            tell(told, x.lodge(it, 0), x.lodge(it, 1), x.leave(it, -1), x.leave(it, 0), x.was(it, 0), x.was(it, 1));
            tell(told, x.storm(5, it, 20, 0), x.storm(5, it, 20, 1));
        }
        for (int it = 0; it < inns; it++) {
            tell(told, x.house(it, 0), x.house(it, 1), x.takes(9, it, 0), x.takes(9, it, 1), x.takes(29, it, 0));
            tell(told, x.takes(29, it, 1), x.price(it, 0), x.price(it, 1), x.port(7, it));
        }
        for (int it = 0; it < fleet; it++) {
            tell(told, x.ship(it, 0), x.ship(it, 1), x.ship(it, 2), x.ship(it, 3), x.crew(it, 0), x.crew(it, 1));
            tell(told, x.crew(it, 2), x.crew(it, 3), x.crew(it, 4), x.look(it));
        }
        tell(told, x.richest(9), x.richest(29), x.last(), x.never(), x.ask(9), x.ask(29), x.port(7, -1));
        long[] row = new long[told.size()];
        for (int i = 0; i < row.length; i++) row[i] = told.get(i);
        return wrapped(row);
    }

    private static void digestIsOf(String men, String inns, String fleet) {
        for (int many = 0; many < 2; many++) {
            TideMen x = Check.town(men, inns, fleet);
            if (many == 1) x.seen(9, 0, Math.max(0, Math.min(999, x.takes(9, 0, 0))));
            String town = men + " " + inns + " " + fleet + " with " + many + " seen";
            check.due("digest() of " + town, x.digest(), digestFrom(x));
        }
    }

    // digest(): "owes(9, it), owes(29, it), purse(9, it), .. storm(5, it, 20) .. richest(9), richest(29) .. ask(9),
    // ask(29), port(7, NONE)": towns in which the days and the seeds on both sides of these tell other things
    private static void digestOfItsDays() {
        digestIsOf("s190;a501;t300;a020;d030;a900", "12;23;31", "10110;21120;29130;09140;20150");
        for (String day : new String[] {"09", "10", "20", "21", "29"}) {
            digestIsOf("a010;a001", "11;11", day + "190");
            digestIsOf("a000;a001", "11;21", day + "110;" + day + "120");
            digestIsOf("a000;s090;t000", "13", day + "190");
        }
        digestIsOf("a000;a000;a000;a000", "11;11", "29900");
        digestIsOf("a000;a000;a000;a000", "11;11;11", "29900");
        digestIsOf("a000;a000;a000;a000;a000", "11;11;11;11;11", "29900");
    }

    // digest(): "of each thing all that is told of it, then of the next one": none of a kind, one, and all
    private static void digestOfEachThing() {
        digestIsOf("a000", "", "");
        digestIsOf("", "11", "");
        digestIsOf("", "", "05110");
        digestIsOf("a000;a001", "11;21", "");
        digestIsOf("a300;s911;t212;d593;a104;a095;t906;d007", "11;22;33;14;25;36;47;98",
            "05251;12390;12121;00909;29990;20310");
    }
}
