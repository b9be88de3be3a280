/** Promises 1 to 9, at their edges: above each test stands the sentence of the document that it looks at. */
public final class TextEdgesTest {
    private static final Check check = new Check("TextEdgesTest");
    private static final int BAD = -2, NOT = -3, FULL = -4, LEAST = Integer.MIN_VALUE, MOST = Integer.MAX_VALUE;
    private static final String FIGURES = "0123456789";
    private static final String MEN = "a000;s191;t282;d373;a464;s555;t646;d997";
    private static final String INNS = "01;12;23;34;45;56;67;99", FLEET = "00100;05211;10322;15433;20544;29999";
    private static final String[] WHOLE = {MEN, INNS, FLEET};

    public static void main(String[] args) {
        newObject();
        objectsApart();
        sailorsHold39Bytes();
        housesHold23Bytes();
        shipsHold35Bytes();
        eightSailors();
        eightHouses();
        sixShips();
        semicolonsBetween();
        kinds();
        thirsts();
        purses();
        housesOfSailors();
        prices();
        beds();
        tides();
        needs();
        advances();
        looks();
        emptyIsWell();
        notEndedIsFaultyAtItsEnd();
        firstByteThatCannotGoOn();
        faultySailorsAreNone();
        faultyHousesAreNone();
        faultyShipsAreNone();
        bytesFrom0To255();
        textsFrom0To2();
        wiping();
        undoing();
        whatIsToldOfSailors();
        whatIsToldOfHouses();
        whatIsToldOfShips();
        capFrom0To9();
        noAdvanceIsMoreThanCap();
        check.end();
    }

    // "No SAILORS, no HOUSES, no SHIPS; all SHEETS are LOST."
    private static void newObject() {
        TideMen x = new TideMen();
        check.due("new: sailor(0, 0)", x.sailor(0, 0), BAD);
        check.due("new: house(0, 0)", x.house(0, 0), BAD);
        check.due("new: ship(0, 0)", x.ship(0, 0), BAD);
        for (int what = 0; what < 9; what++) {
            check.due("new: count(" + what + ")", x.count(what), 0);
        }
        for (int s = 0; s < 4; s++) {
            check.due("new: lose(" + s + ")", x.lose(s), -11);
        }
    }

    // the same, where another object was filled ahead of it and goes on behind it
    private static void objectsApart() {
        String due = State.of(new TideMen());
        TideMen x = Check.town(MEN, INNS, FLEET);
        x.seen(0, 0, 0);
        x.cap(3);
        Check.fill(x, 0, 2, 5, 6, 7);
        TideMen y = new TideMen();
        x.digest();
        check.same("a new object beside a filled one", State.of(y), due);
        check.due("the filled one stands", x.count(0), 8);
        check.due("its sheet stands", x.get(0, 2, 2), 7);
        check.due("its cap stands", x.cap(9), 3);
    }

    private static void holds(int text, int room) {
        TideMen x = new TideMen();
        for (int n = 1; n <= room; n++) {
            check.due("type(" + text + ", ..) the " + n, x.type(text, WHOLE[text].charAt(n - 1)), n);
        }
        check.due("a full text " + text + " is well", x.fault(text), -1);
        check.due("one byte more", x.type(text, ';'), FULL);
        check.due("one byte more, that could not go on either", x.type(text, 0), FULL);
        check.due("bytes of text " + text, x.count(3 + text), room);
        check.due("it is still well", x.fault(text), -1);
        check.due("room for one again: undo", x.undo(text), room - 1);
        check.due("room for one again: type", x.type(text, '9'), room);
        check.due("full again", x.type(text, '9'), FULL);
        for (int other = 0; other < 3; other++) {
            check.due("text " + other + " beside it", x.type(other, '0'), other == text ? FULL : 1);
        }
    }

    // "SAILORS are a text of up to 39 bytes (text 0)"; "FULL"
    private static void sailorsHold39Bytes() {
        holds(0, 39);
    }

    // "HOUSES are a text of up to 23 bytes (text 1)"; "FULL"
    private static void housesHold23Bytes() {
        holds(1, 23);
    }

    // "SHIPS are a text of up to 35 bytes (text 2)"; "FULL"
    private static void shipsHold35Bytes() {
        holds(2, 35);
    }

    // SAILORS: "8 at most (0 on)"; no byte of a ninth finds room
    private static void eightSailors() {
        TideMen x = Check.town(MEN, "", "");
        check.due("count(0)", x.count(0), 8);
        int[] first = {0, 0, 0, 0}, last = {3, 9, 9, 7};
        for (int what = 0; what < 4; what++) {
            check.due("sailor(-1, " + what + ")", x.sailor(-1, what), BAD);
            check.due("sailor(0, " + what + ")", x.sailor(0, what), first[what]);
            check.due("sailor(7, " + what + ")", x.sailor(7, what), last[what]);
            check.due("sailor(8, " + what + ")", x.sailor(8, what), BAD);
        }
        check.due("a ninth", x.type(0, ';'), FULL);
        TideMen y = Check.town(MEN.substring(0, 34), "", "");
        check.due("sailor(6, 2) of seven", y.sailor(6, 2), 4);
        check.due("sailor(7, 2) of seven", y.sailor(7, 2), BAD);
    }

    // HOUSES: "8 at most (0 on)"
    private static void eightHouses() {
        TideMen x = Check.town("", INNS, "");
        check.due("count(1)", x.count(1), 8);
        check.due("house(-1, 1)", x.house(-1, 1), BAD);
        check.due("house(0, 1)", x.house(0, 1), 1);
        check.due("house(7, 1)", x.house(7, 1), 9);
        check.due("house(8, 1)", x.house(8, 1), BAD);
        check.due("a ninth", x.type(1, ';'), FULL);
        TideMen y = Check.town("", INNS.substring(0, 20), "");
        check.due("house(6, 1) of seven", y.house(6, 1), 7);
        check.due("house(7, 1) of seven", y.house(7, 1), BAD);
    }

    // SHIPS: "6 at most (0 on)"; "here also of the first byte of a ninth, of a seventh SHIP"
    private static void sixShips() {
        TideMen x = Check.town("", "", FLEET);
        check.due("count(2)", x.count(2), 6);
        check.due("ship(-1, 0)", x.ship(-1, 0), BAD);
        check.due("ship(0, 1)", x.ship(0, 1), 1);
        check.due("ship(5, 0)", x.ship(5, 0), 29);
        check.due("ship(6, 0)", x.ship(6, 0), BAD);
        check.due("a seventh", x.type(2, ';'), FULL);
        TideMen y = Check.town("", "", FLEET.substring(0, 29));
        check.due("ship(4, 0) of five", y.ship(4, 0), 20);
        check.due("ship(5, 0) of five", y.ship(5, 0), BAD);
    }

    // each of the 256 bytes at one place of a text that is well but for it
    private static void allowedAt(int text, String ahead, String behind, String allowed) {
        for (int b = 0; b < 256; b++) {
            TideMen x = new TideMen();
            Check.type(x, text, ahead);
            x.type(text, b);
            Check.type(x, text, behind);
            int due = allowed.indexOf(b) >= 0 ? -1 : ahead.length();
            check.due("fault(" + text + ") of " + ahead + "<" + b + ">" + behind, x.fault(text), due);
        }
    }

    // ".. with ; between them"
    private static void semicolonsBetween() {
        allowedAt(0, "a000", "a000", ";");
        allowedAt(0, MEN.substring(0, 34), "a000", ";");
        allowedAt(1, "01", "01", ";");
        allowedAt(1, INNS.substring(0, 20), "01", ";");
        allowedAt(2, "00100", "00100", ";");
        allowedAt(2, FLEET.substring(0, 29), "00100", ";");
    }

    // "a (any), s (sober), t (a tailor) or d (dead)"; "(what = 0: 0 a, 1 s, 2 t, 3 d)"
    private static void kinds() {
        allowedAt(0, "", "000", "astd");
        allowedAt(0, "a000;", "000", "astd");
        allowedAt(0, MEN.substring(0, 35), "000", "astd");
        for (int kind = 0; kind < 4; kind++) {
            check.due("kind " + kind, Check.town("astd".charAt(kind) + "000", "", "").sailor(0, 0), kind);
        }
    }

    // "a figure, its THIRST (0 to 9)"
    private static void thirsts() {
        allowedAt(0, "a", "00", FIGURES);
        allowedAt(0, MEN.substring(0, 36), "00", FIGURES);
        for (int v = 0; v < 10; v++) {
            check.due("thirst " + v, Check.town("a" + v + "00", "", "").sailor(0, 1), v);
        }
    }

    // "a figure, its PURSE (0 to 9: ten times as many coins)"; "PURSE as told"
    private static void purses() {
        allowedAt(0, "a0", "0", FIGURES);
        allowedAt(0, MEN.substring(0, 37), "0", FIGURES);
        for (int v = 0; v < 10; v++) {
            TideMen x = Check.town("a0" + v + "0", "01", "");
            check.due("purse as told " + v, x.sailor(0, 2), v);
            check.due("ten times as many coins " + v, x.purse(0, 0), 10 * v);
        }
    }

    // "a figure 0 to 7, its HOUSE"
    private static void housesOfSailors() {
        allowedAt(0, "a00", "", "01234567");
        allowedAt(0, MEN.substring(0, 38), "", "01234567");
        for (int v = 0; v < 8; v++) {
            TideMen x = Check.town("a00" + v, INNS, "");
            check.due("house as told " + v, x.sailor(0, 3), v);
            check.due("he lodges there, " + v, x.where(0, 0), v);
        }
    }

    // "a figure, its PRICE (0 to 9)"
    private static void prices() {
        allowedAt(1, "", "1", FIGURES);
        allowedAt(1, INNS.substring(0, 21), "1", FIGURES);
        for (int v = 0; v < 10; v++) {
            TideMen x = Check.town("a000", v + "1", "");
            check.due("price as told " + v, x.house(0, 0), v);
            check.due("he pays it, " + v, x.owes(0, 0), v);
        }
    }

    // "and a figure, how many BEDS (1 to 9)"
    private static void beds() {
        allowedAt(1, "0", "", "123456789");
        allowedAt(1, INNS.substring(0, 22), "", "123456789");
        for (int v = 1; v < 10; v++) {
            check.due("beds " + v, Check.town("", "0" + v, "").house(0, 1), v);
        }
    }

    // "a figure 0 to 2 and a figure, its TIDE (DAY 00 to 29)"
    private static void tides() {
        allowedAt(2, "", "0100", "012");
        allowedAt(2, "", "9100", "012");
        allowedAt(2, "0", "100", FIGURES);
        allowedAt(2, "2", "100", FIGURES);
        allowedAt(2, FLEET.substring(0, 31), "100", FIGURES);
        for (int day = 0; day < 40; day++) {
            String tide = (day < 10 ? "0" : "") + day;
            TideMen x = Check.town("", "", tide + "100");
            check.due("fault(2) of the tide " + tide, x.fault(2), day < 30 ? -1 : 0);
            check.due("ship(0, 0) of the tide " + tide, x.ship(0, 0), day < 30 ? day : BAD);
        }
    }

    // "a figure, how many it NEEDS (1 to 9)"
    private static void needs() {
        allowedAt(2, "00", "00", "123456789");
        allowedAt(2, FLEET.substring(0, 32), "00", "123456789");
        for (int v = 1; v < 10; v++) {
            check.due("needs " + v, Check.town("", "", "00" + v + "00").ship(0, 1), v);
        }
    }

    // "its ADVANCE (0 to 9: ten times as many coins)"; "ADVANCE as told"
    private static void advances() {
        allowedAt(2, "001", "0", FIGURES);
        allowedAt(2, FLEET.substring(0, 33), "0", FIGURES);
        for (int v = 0; v < 10; v++) {
            TideMen x = Check.town("d000", "01", "001" + v + "0");
            check.due("advance as told " + v, x.ship(0, 2), v);
            check.due("ten times as many coins " + v, x.takes(0, 0, 0), 10 * v);
        }
    }

    // "and a figure, how many it LOOKS at (0 to 9)"
    private static void looks() {
        allowedAt(2, "0010", "", FIGURES);
        allowedAt(2, FLEET.substring(0, 34), "", FIGURES);
        for (int v = 0; v < 10; v++) {
            check.due("looks " + v, Check.town("", "", "0010" + v).ship(0, 3), v);
        }
    }

    // FAULT: "an empty one is well"; "The FAULT of a text; NONE."
    private static void emptyIsWell() {
        TideMen x = new TideMen();
        for (int text = 0; text < 3; text++) {
            check.due("fault(" + text + ") of a new text", x.fault(text), TideMen.NONE);
            x.type(text, 'x');
            check.due("fault(" + text + ") of x", x.fault(text), 0);
            x.undo(text);
            check.due("fault(" + text + ") of an undone text", x.fault(text), TideMen.NONE);
            x.type(text, 'x');
            x.wipe(text);
            check.due("fault(" + text + ") of a wiped text", x.fault(text), TideMen.NONE);
        }
    }

    // FAULT: "of one that is not ended, its end"
    private static void notEndedIsFaultyAtItsEnd() {
        int[] steps = {5, 3, 6};
        for (int text = 0; text < 3; text++) {
            TideMen x = new TideMen();
            int things = 0;
            for (int n = 1; n <= WHOLE[text].length(); n++) {
                x.type(text, WHOLE[text].charAt(n - 1));
                boolean isEnded = n % steps[text] == steps[text] - 1;
                things += isEnded ? 1 : 0;
                check.due("fault(" + text + ") behind " + n + " bytes", x.fault(text), isEnded ? -1 : n);
                check.due("count(" + text + ") behind " + n + " bytes", x.count(text), isEnded ? things : 0);
            }
        }
    }

    private static void faultOf(int text, String bytes, int due) {
        TideMen x = new TideMen();
        Check.type(x, text, bytes);
        check.due("fault(" + text + ") of " + bytes, x.fault(text), due);
    }

    // FAULT: "the place of the first byte with which it cannot go on"
    private static void firstByteThatCannotGoOn() {
        faultOf(0, "axxx", 1);
        faultOf(0, "a0x", 2);
        faultOf(0, "a00x;x", 3);
        faultOf(0, "a000;;000;x", 5);
        faultOf(0, ";a000", 0);
        faultOf(0, "a000;a00", 8);
        faultOf(0, MEN.substring(0, 38) + "8", 38);
        faultOf(1, "x", 0);
        faultOf(1, "00;00", 1);
        faultOf(1, "01;;", 3);
        faultOf(1, INNS.substring(0, 22) + "0", 22);
        faultOf(2, "3", 0);
        faultOf(2, "00000;3", 2);
        faultOf(2, "00100;;", 6);
        faultOf(2, FLEET.substring(0, 34) + ";", 34);
    }

    // "With a FAULT a text is as if it was empty."
    private static void faultySailorsAreNone() {
        TideMen x = Check.town("d000;a000", "12", "00110");
        x.type(0, ';');
        check.due("faulty sailors", x.count(0), 0);
        check.due("sailor(0, 0)", x.sailor(0, 0), BAD);
        check.due("owes(0, 0)", x.owes(0, 0), BAD);
        check.due("nobody sails", x.count(6), 0);
        check.due("their bytes are there", x.count(3), 10);
        check.due("houses stand", x.count(1), 1);
        check.due("ships stand", x.count(2), 1);
        x.undo(0);
        check.due("mended", x.count(6), 1);
    }

    // the same of HOUSES: who would lodge there is NOWHERE
    private static void faultyHousesAreNone() {
        TideMen x = Check.town("d000;a000", "12", "00110");
        x.type(1, ';');
        check.due("faulty houses", x.count(1), 0);
        check.due("house(0, 0)", x.house(0, 0), BAD);
        check.due("takes(0, 0, 0)", x.takes(0, 0, 0), BAD);
        check.due("richest(0)", x.richest(0), -1);
        check.due("where(0, 1)", x.where(0, 1), -1);
        check.due("nobody sails", x.count(6), 0);
        check.due("their bytes are there", x.count(4), 3);
        check.due("sailors stand", x.count(0), 2);
        check.due("ships stand", x.count(2), 1);
        x.undo(1);
        check.due("mended", x.where(0, 1), 0);
    }

    // the same of SHIPS: none comes
    private static void faultyShipsAreNone() {
        TideMen x = Check.town("d000;a000", "12", "00110");
        x.type(2, ';');
        check.due("faulty ships", x.count(2), 0);
        check.due("ship(0, 0)", x.ship(0, 0), BAD);
        check.due("crew(0, 0)", x.crew(0, 0), BAD);
        check.due("nobody sails", x.count(6), 0);
        check.due("never()", x.never(), 0);
        check.due("where(0, 0)", x.where(0, 0), 0);
        check.due("their bytes are there", x.count(5), 6);
        check.due("sailors stand", x.count(0), 2);
        check.due("houses stand", x.count(1), 1);
        x.undo(2);
        check.due("mended", x.where(0, 0), 8);
    }

    // type(): "A byte (0 to 255) comes behind a text: how many. BAD"
    private static void bytesFrom0To255() {
        for (int text = 0; text < 3; text++) {
            TideMen x = new TideMen();
            for (int b : new int[] {-1, 256, LEAST, MOST, 'a' - 256, 'a' + 256}) {
                check.due("type(" + text + ", " + b + ")", x.type(text, b), BAD);
            }
            check.due("nothing came", x.count(3 + text), 0);
            check.due("type(" + text + ", 0)", x.type(text, 0), 1);
            check.due("type(" + text + ", 255)", x.type(text, 255), 2);
        }
    }

    // "text 0", "text 1", "text 2": no such thing is BAD
    private static void textsFrom0To2() {
        TideMen x = Check.town("a000", "12", "00110");
        for (int text : new int[] {-1, 3, LEAST, MOST}) {
            check.due("type(" + text + ", 48)", x.type(text, 48), BAD);
            check.due("wipe(" + text + ")", x.wipe(text), BAD);
            check.due("undo(" + text + ")", x.undo(text), BAD);
            check.due("fault(" + text + ")", x.fault(text), BAD);
        }
        check.due("bytes stand", x.count(3) + x.count(4) + x.count(5), 11);
        for (int text = 0; text < 3; text++) {
            check.due("fault(" + text + ")", x.fault(text), -1);
        }
    }

    // wipe(): "A text is empty: how many bytes it had."
    private static void wiping() {
        int[] rooms = {39, 23, 35};
        TideMen x = Check.town(MEN, INNS, FLEET);
        for (int text = 0; text < 3; text++) {
            check.due("wipe(" + text + ") of a full one", x.wipe(text), rooms[text]);
            check.due("wipe(" + text + ") of an empty one", x.wipe(text), 0);
            check.due("count(" + text + ")", x.count(text), 0);
            check.due("count(" + (3 + text) + ")", x.count(3 + text), 0);
            check.due("a byte comes again", x.type(text, WHOLE[text].charAt(0)), 1);
            check.due("wipe(" + text + ") of one byte", x.wipe(text), 1);
        }
    }

    // undo(): "The last byte of a text is undone: how many are left. BAD; NOT: it is empty."
    private static void undoing() {
        TideMen x = Check.town(MEN, INNS, FLEET);
        for (int text = 0; text < 3; text++) {
            for (int left = WHOLE[text].length() - 1; left >= 0; left--) {
                check.due("undo(" + text + ")", x.undo(text), left);
            }
            check.due("undo(" + text + ") of an empty one", x.undo(text), NOT);
            check.due("undo(" + text + ") of an empty one again", x.undo(text), NOT);
            check.due("count(" + (3 + text) + ")", x.count(3 + text), 0);
            check.due("a byte comes first again", x.type(text, 'd'), 1);
            check.due("undo(" + text + ") of one byte", x.undo(text), 0);
        }
        TideMen y = Check.town("a000;a001", "11;11", "");
        y.undo(0);
        y.type(0, '0');
        check.due("the last byte it was, no other", y.sailor(1, 3), 0);
    }

    // sailor(): "kind (what = 0 ..), THIRST (1), PURSE as told (2), HOUSE as told (3)"; "BAD"
    private static void whatIsToldOfSailors() {
        TideMen x = Check.town("t123", "", "");
        int[] due = {2, 1, 2, 3};
        for (int what = 0; what < 4; what++) {
            check.due("sailor(0, " + what + ")", x.sailor(0, what), due[what]);
        }
        for (int what : new int[] {-1, 4, LEAST, MOST}) {
            check.due("sailor(0, " + what + ")", x.sailor(0, what), BAD);
        }
    }

    // house(): "PRICE (what = 0), BEDS (1) of a HOUSE. BAD."
    private static void whatIsToldOfHouses() {
        TideMen x = Check.town("", "79", "");
        check.due("house(0, 0)", x.house(0, 0), 7);
        check.due("house(0, 1)", x.house(0, 1), 9);
        for (int what : new int[] {-1, 2, LEAST, MOST}) {
            check.due("house(0, " + what + ")", x.house(0, what), BAD);
        }
    }

    // ship(): "TIDE (what = 0), how many it NEEDS (1), ADVANCE as told (2), how many it LOOKS at (3). BAD."
    private static void whatIsToldOfShips() {
        TideMen x = Check.town("", "", "12345");
        int[] due = {12, 3, 4, 5};
        for (int what = 0; what < 4; what++) {
            check.due("ship(0, " + what + ")", x.ship(0, what), due[what]);
        }
        for (int what : new int[] {-1, 4, LEAST, MOST}) {
            check.due("ship(0, " + what + ")", x.ship(0, what), BAD);
        }
    }

    // "CAP (0 to 9; 9 at first)"; "CAP: what it was. BAD."
    private static void capFrom0To9() {
        TideMen x = new TideMen();
        int was = 9;
        for (int v : new int[] {0, 9, 0, 5, 9}) {
            check.due("cap(" + v + ")", x.cap(v), was);
            was = v;
            for (int bad : new int[] {-1, 10, LEAST, MOST}) {
                check.due("cap(" + bad + ")", x.cap(bad), BAD);
            }
        }
        check.due("cap(9)", x.cap(9), 9);
    }

    // "no ADVANCE is more than that"
    private static void noAdvanceIsMoreThanCap() {
        TideMen x = Check.town("d000", "01", "00150");
        int[] due = {0, 10, 20, 30, 40, 50, 50, 50, 50, 50};
        for (int cap = 0; cap < 10; cap++) {
            x.cap(cap);
            check.due("takes(0, 0, 0) by the cap " + cap, x.takes(0, 0, 0), due[cap]);
            check.due("price(0, 1) by the cap " + cap, x.price(0, 1), due[cap]);
            check.due("port(0, 0) by the cap " + cap, x.port(0, 0), due[cap]);
            check.due("advance as told by the cap " + cap, x.ship(0, 2), 5);
        }
    }
}
