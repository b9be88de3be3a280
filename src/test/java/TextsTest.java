/** Promises 1 to 9: a new object, texts and what they tell, the cap. */
public final class TextsTest {
    private static final Check check = new Check("TextsTest");

    public static void main(String[] args) {
        newObject();
        typing();
        wipingAndUndoing();
        faultsOfSailors();
        faultsOfHousesAndShips();
        whatTextsTell();
        capping();
        check.end();
    }

    private static void newObject() {
        TideMen x = new TideMen();
        for (int what = 0; what < 9; what++) {
            check.due("new: count(" + what + ")", x.count(what), 0);
        }
        for (int s = 0; s < 4; s++) {
            check.due("new: lose(" + s + ")", x.lose(s), -11);
        }
        check.due("new: cap(9)", x.cap(9), 9);
        check.due("new: last()", x.last(), TideMen.NONE);
        check.due("new: forget()", x.forget(), 0);
    }

    private static void typing() {
        TideMen x = new TideMen();
        check.due("type(-1, 97)", x.type(-1, 97), -2);
        check.due("type(3, 97)", x.type(3, 97), -2);
        check.due("type(0, -1)", x.type(0, -1), -2);
        check.due("type(0, 256)", x.type(0, 256), -2);
        check.due("type(0, 0)", x.type(0, 0), 1);
        check.due("type(0, 255)", x.type(0, 255), 2);
        int[] rooms = {39, 23, 35};
        for (int text = 0; text < 3; text++) {
            x.wipe(text);
            for (int n = 1; n <= rooms[text]; n++) {
                check.due("type(" + text + ", 48) the " + n, x.type(text, 48), n);
            }
            check.due("type of a full text " + text, x.type(text, 48), -4);
            check.due("a bad byte to a full text " + text, x.type(text, 256), -2);
            check.due("count(" + (3 + text) + ")", x.count(3 + text), rooms[text]);
        }
    }

    private static void wipingAndUndoing() {
        TideMen x = Check.town("a000", "11", "05110");
        check.due("wipe(-1)", x.wipe(-1), -2);
        check.due("wipe(3)", x.wipe(3), -2);
        check.due("undo(-1)", x.undo(-1), -2);
        check.due("undo(3)", x.undo(3), -2);
        check.due("undo(2)", x.undo(2), 4);
        check.due("ship gone with its last byte", x.count(2), 0);
        check.due("nobody sails", x.count(6), 0);
        check.due("type(2, 48)", x.type(2, 48), 5);
        check.due("somebody sails", x.count(6), 1);
        check.due("wipe(1)", x.wipe(1), 2);
        check.due("wipe(1) again", x.wipe(1), 0);
        check.due("no houses", x.count(1), 0);
        check.due("where without houses", x.where(0, 0), -1);
        check.due("undo(1) of an empty one", x.undo(1), -3);
        check.due("undo(0)", x.undo(0), 3);
        check.due("no sailors", x.count(0), 0);
    }

    private static void faultOf(int text, String bytes, int due) {
        TideMen x = new TideMen();
        Check.type(x, text, bytes);
        check.due("fault(" + text + ") of " + bytes, x.fault(text), due);
    }

    private static void faultsOfSailors() {
        check.due("fault(-1)", new TideMen().fault(-1), -2);
        check.due("fault(3)", new TideMen().fault(3), -2);
        faultOf(0, "", -1);
        for (String kind : new String[] {"a", "s", "t", "d"}) {
            faultOf(0, kind + "097", -1);
        }
        for (String bad : new String[] {"b", "A", "0", ";", "`", "u"}) {
            faultOf(0, bad + "000", 0);
        }
        faultOf(0, "a:00", 1);
        faultOf(0, "a/00", 1);
        faultOf(0, "a0:0", 2);
        faultOf(0, "a0/0", 2);
        faultOf(0, "a008", 3);
        faultOf(0, "a00/", 3);
        faultOf(0, "a000s000", 4);
        faultOf(0, "a000:s000", 4);
        for (int size = 1; size < 4; size++) {
            faultOf(0, "a000".substring(0, size), size);
        }
        faultOf(0, "a000;", 5);
        faultOf(0, "a000;;", 5);
        faultOf(0, "a000;s", 6);
        faultOf(0, "a000;s00", 8);
        faultOf(0, "a000;s000", -1);
        faultOf(0, ";", 0);
        faultOf(0, "a000;s000;t000;d000;a000;s000;t000;d000", -1);
        faultOf(0, "a000;s000;t000;d000;a000;s000;t000;d00x", 38);
        faultOf(0, "a000;s000;t000;d000;a000;s000;t000;d00", 38);
    }

    private static void faultsOfHousesAndShips() {
        faultOf(1, "", -1);
        faultOf(1, "01", -1);
        faultOf(1, "99", -1);
        faultOf(1, "90", 1);
        faultOf(1, "a1", 0);
        faultOf(1, "0", 1);
        faultOf(1, "01;", 3);
        faultOf(1, "0111", 2);
        faultOf(1, "01;2", 4);
        faultOf(1, "01;01;01;01;01;01;01;01", -1);
        faultOf(2, "", -1);
        faultOf(2, "00100", -1);
        faultOf(2, "29999", -1);
        faultOf(2, "30100", 0);
        faultOf(2, "0x100", 1);
        faultOf(2, "00000", 2);
        faultOf(2, "001:0", 3);
        faultOf(2, "0010:", 4);
        faultOf(2, "0010", 4);
        faultOf(2, "00100;", 6);
        faultOf(2, "001000", 5);
        faultOf(2, "00100;00100;00100;00100;00100;00100", -1);
    }

    private static void whatTextsTell() {
        TideMen x = Check.town("a123;s456;t780;d907", "04;91", "00123;29987");
        int[][] sailors = {{0, 1, 2, 3}, {1, 4, 5, 6}, {2, 7, 8, 0}, {3, 9, 0, 7}};
        int[][] houses = {{0, 4}, {9, 1}};
        int[][] ships = {{0, 1, 2, 3}, {29, 9, 8, 7}};
        x.cap(1);
        for (int s = 0; s < 4; s++) {
            for (int what = 0; what < 4; what++) {
                check.due("sailor(" + s + ", " + what + ")", x.sailor(s, what), sailors[s][what]);
            }
        }
        for (int i = 0; i < 2; i++) {
            for (int what = 0; what < 2; what++) {
                check.due("house(" + i + ", " + what + ")", x.house(i, what), houses[i][what]);
            }
            for (int what = 0; what < 4; what++) {
                check.due("ship(" + i + ", " + what + ")", x.ship(i, what), ships[i][what]);
            }
        }
        int[][] bad = {{-1, 0}, {9, 0}, {0, -1}, {0, 4}, {Integer.MIN_VALUE, 0}, {0, Integer.MAX_VALUE}};
        for (int[] b : bad) {
            check.due("sailor(" + b[0] + ", " + b[1] + ")", x.sailor(b[0], b[1]), -2);
            check.due("house(" + b[0] + ", " + b[1] + ")", x.house(b[0], b[1]), -2);
            check.due("ship(" + b[0] + ", " + b[1] + ")", x.ship(b[0], b[1]), -2);
        }
        check.due("sailor(4, 0)", x.sailor(4, 0), -2);
        check.due("house(2, 0)", x.house(2, 0), -2);
        check.due("house(0, 2)", x.house(0, 2), -2);
        check.due("ship(2, 0)", x.ship(2, 0), -2);
        x.type(0, 'x');
        check.due("sailor(0, 0) of a text with a fault", x.sailor(0, 0), -2);
        check.due("count(0) of a text with a fault", x.count(0), 0);
        check.due("count(3) of a text with a fault", x.count(3), 20);
        check.due("houses stand", x.count(1), 2);
    }

    private static void capping() {
        TideMen x = Check.town("a000", "11", "05190");
        check.due("takes(5, 0, 0)", x.takes(5, 0, 0), 90);
        check.due("cap(3)", x.cap(3), 9);
        check.due("takes(5, 0, 0), cap 3", x.takes(5, 0, 0), 30);
        check.due("cap(-1)", x.cap(-1), -2);
        check.due("cap(10)", x.cap(10), -2);
        check.due("takes(5, 0, 0), cap still 3", x.takes(5, 0, 0), 30);
        check.due("cap(0)", x.cap(0), 3);
        check.due("takes(5, 0, 0), cap 0", x.takes(5, 0, 0), 0);
        check.due("price(0, 1), cap 0", x.price(0, 1), 0);
        check.due("cap(9)", x.cap(9), 0);
        check.due("price(0, 1), cap 9", x.price(0, 1), 90);
        check.due("ship(0, 2) as told", x.ship(0, 2), 9);
    }
}
