/**
 * "Refusals, the first that fits, in the order told at each act: BAD -2 .., NULL, NOT -3, FULL -4, other FINDINGS. They
 * change nothing (FINDINGS but count() 8)." Each refused call is made of three objects: a new one, one that holds some
 * of all, and a full one; behind it each must stand as one of which it was not asked.
 */
public final class RefusalsTest {
    private static final Check check = new Check("RefusalsTest");
    private static final int BAD = -2, NOT = -3, FULL = -4;
    private static final int NULL = -11, INDEX = -12, CAST = -13, STORE = -14, SIZE = -15;
    private static final int LEAST = Integer.MIN_VALUE, MOST = Integer.MAX_VALUE;
    private static final long BAD_LONG = Long.MIN_VALUE + 2;
    private static final int NEW = 0, SOME = 1, FILLED = 2;
    private static final int[] MEN = {0, 5, 8}, INNS = {0, 2, 8}, FLEET = {0, 3, 6}, FOUND = {0, 4, 5};
    private static final String[] STATES = {State.of(make(NEW)), State.of(make(SOME)), State.of(make(FILLED))};

    private interface Call {
        long of(TideMen x);
    }

    public static void main(String[] args) {
        texts();
        things();
        days();
        plans();
        seen();
        storms();
        sheets();
        puts();
        gets();
        copies();
        writes();
        nots();
        fulls();
        check.end();
    }

    // sheets: 0 has items, 1 another form, 2 none, 3 is lost; of a new object all are lost
    private static TideMen make(int which) {
        TideMen x = new TideMen();
        if (which == SOME) {
            x = Check.town("a300;s911;t210;d590;a100", "13;22", "05251;12390;12121");
            x.cap(5);
            x.seen(9, 0, 20);
            x.seen(4, 1, 0);
            Check.fill(x, 0, 2, 5, -7, 100000, LEAST, 3);
            Check.fill(x, 1, 1, 300, -300);
            x.sheet(2, 0, 0);
            x.copy(0, 0, 1, 0, 1);
        }
        if (which == FILLED) {
            x = Check.town("a300;s911;t212;d593;a104;a095;t906;d007", "11;22;33;14;25;36;47;98",
                "05251;12390;12121;00909;29990;20310");
            x.cap(0);
            for (int n = 0; n < 8; n++) x.seen(n, n, 0);
            x.sheet(0, 2, 60);
            for (int i = 0; i < 60; i++) x.put(0, 2, i, i * i * i);
            Check.fill(x, 1, 1, 300, -300);
            x.sheet(2, 0, 0);
            x.sheet(3, 0, -1);
        }
        return x;
    }

    private static void refused(int which, String name, Call call, long due, int found) {
        TideMen x = make(which);
        String title = "object " + which + ", " + name;
        check.due(title, call.of(x), due);
        check.due(title + ": count(8)", x.count(8), found);
        check.same(title, State.of(x), STATES[which]);
    }

    private static void bad(int which, String name, Call call) {
        refused(which, name, call, BAD, FOUND[which]);
    }

    private static void bad(String name, Call call) {
        for (int which = NEW; which <= FILLED; which++) bad(which, name, call);
    }

    private static void finding(int which, String name, Call call, int due) {
        refused(which, name, call, due, -10 - due);
    }

    private static int[] beyond(int many) {
        return new int[] {-1, many, LEAST, MOST};
    }

    // BAD of type(), wipe(), undo(), fault(), cap(): ahead of FULL and NOT
    private static void texts() {
        for (int t : beyond(3)) {
            bad("type(" + t + ", 97)", x -> x.type(t, 97));
            bad("type(" + t + ", 256)", x -> x.type(t, 256));
            bad("wipe(" + t + ")", x -> x.wipe(t));
            bad("undo(" + t + ")", x -> x.undo(t));
            bad("fault(" + t + ")", x -> x.fault(t));
        }
        for (int b : beyond(256)) {
            for (int text = 0; text < 3; text++) {
                int t = text;
                bad("type(" + t + ", " + b + ")", x -> x.type(t, b));
            }
        }
        for (int v : beyond(10)) bad("cap(" + v + ")", x -> x.cap(v));
    }

    // BAD of sailor(), house(), ship(), count()
    private static void things() {
        for (int which = NEW; which <= FILLED; which++) {
            for (int i : beyond(MEN[which])) bad(which, "sailor(" + i + ", 0)", x -> x.sailor(i, 0));
            for (int i : beyond(INNS[which])) bad(which, "house(" + i + ", 0)", x -> x.house(i, 0));
            for (int i : beyond(FLEET[which])) bad(which, "ship(" + i + ", 0)", x -> x.ship(i, 0));
        }
        for (int what : beyond(4)) {
            bad("sailor(0, " + what + ")", x -> x.sailor(0, what));
            bad("ship(0, " + what + ")", x -> x.ship(0, what));
        }
        for (int what : beyond(2)) bad("house(0, " + what + ")", x -> x.house(0, what));
        for (int what : beyond(9)) bad("count(" + what + ")", x -> x.count(what));
    }

    // BAD of owes(), purse(), where(), takes(), crew(), richest()
    private static void days() {
        for (int which = NEW; which <= FILLED; which++) {
            for (int i : beyond(MEN[which])) {
                bad(which, "owes(9, " + i + ")", x -> x.owes(9, i));
                bad(which, "purse(9, " + i + ")", x -> x.purse(9, i));
                bad(which, "where(9, " + i + ")", x -> x.where(9, i));
            }
            for (int i : beyond(INNS[which])) bad(which, "takes(9, " + i + ", 0)", x -> x.takes(9, i, 0));
            for (int i : beyond(FLEET[which])) bad(which, "crew(" + i + ", 0)", x -> x.crew(i, 0));
        }
        for (int day : beyond(30)) {
            bad("owes(" + day + ", 0)", x -> x.owes(day, 0));
            bad("purse(" + day + ", 0)", x -> x.purse(day, 0));
            bad("where(" + day + ", 0)", x -> x.where(day, 0));
            bad("takes(" + day + ", 0, 0)", x -> x.takes(day, 0, 0));
            bad("richest(" + day + ")", x -> x.richest(day));
        }
        for (int what : beyond(2)) bad("takes(9, 0, " + what + ")", x -> x.takes(9, 0, what));
        for (int what : beyond(5)) bad("crew(0, " + what + ")", x -> x.crew(0, what));
    }

    // BAD of price(), lodge(), look(), leave()
    private static void plans() {
        for (int which = NEW; which <= FILLED; which++) {
            for (int i : beyond(INNS[which])) bad(which, "price(" + i + ", 0)", x -> x.price(i, 0));
            for (int i : beyond(MEN[which])) bad(which, "lodge(" + i + ", 0)", x -> x.lodge(i, 0));
            for (int i : beyond(FLEET[which])) bad(which, "look(" + i + ")", x -> x.look(i));
            for (int i : beyond(MEN[which])) bad(which, "leave(" + i + ", -1)", x -> x.leave(i, -1));
        }
        for (int what : beyond(2)) {
            bad("price(0, " + what + ")", x -> x.price(0, what));
            bad("lodge(0, " + what + ")", x -> x.lodge(0, what));
        }
        for (int i : new int[] {-2, 2, LEAST, MOST}) bad("leave(0, " + i + ")", x -> x.leave(0, i));
    }

    // BAD of seen() (ahead of FULL), read(), was(), ask(), port()
    private static void seen() {
        for (int day : beyond(30)) {
            bad("seen(" + day + ", 0, 0)", x -> x.seen(day, 0, 0));
            bad("ask(" + day + ")", x -> x.ask(day));
        }
        for (int inn : beyond(8)) bad("seen(0, " + inn + ", 0)", x -> x.seen(0, inn, 0));
        for (int much : beyond(1000)) bad("seen(0, 0, " + much + ")", x -> x.seen(0, 0, much));
        for (int s : beyond(4)) bad("read(" + s + ")", x -> x.read(s));
        for (int which = NEW; which <= FILLED; which++) {
            for (int i : beyond(MEN[which])) bad(which, "was(" + i + ", 0)", x -> x.was(i, 0));
            for (int i : new int[] {-2, INNS[which], LEAST, MOST}) bad(which, "port(7, " + i + ")", x -> x.port(7, i));
            finding(which, "read(3)", x -> x.read(3), NULL);
        }
        for (int what : beyond(2)) bad("was(0, " + what + ")", x -> x.was(0, what));
    }

    private static void badLong(int which, String name, Call call) {
        refused(which, name, call, BAD_LONG, FOUND[which]);
    }

    // BAD of storm(): "the least long and x more"
    private static void storms() {
        for (int which = NEW; which <= FILLED; which++) {
            for (int c : beyond(17)) badLong(which, "storm(" + c + ", 0, 9, 0)", x -> x.storm(c, 0, 9, 0));
            for (int i : beyond(MEN[which])) badLong(which, "storm(5, " + i + ", 9, 0)", x -> x.storm(5, i, 9, 0));
            for (int day : beyond(30)) badLong(which, "storm(5, 0, " + day + ", 0)", x -> x.storm(5, 0, day, 0));
            for (int what : beyond(2)) badLong(which, "storm(5, 0, 9, " + what + ")", x -> x.storm(5, 0, 9, what));
        }
    }

    // sheet(): "BAD: SHEET, FORM, above 60; SIZE"; lose(): "BAD; NULL"
    private static void sheets() {
        for (int s : beyond(4)) {
            bad("sheet(" + s + ", 0, 5)", x -> x.sheet(s, 0, 5));
            bad("sheet(" + s + ", 0, -1)", x -> x.sheet(s, 0, -1));
            bad("lose(" + s + ")", x -> x.lose(s));
        }
        for (int form : beyond(3)) {
            bad("sheet(0, " + form + ", 5)", x -> x.sheet(0, form, 5));
            bad("sheet(0, " + form + ", -1)", x -> x.sheet(0, form, -1));
        }
        for (int n : new int[] {61, MOST}) bad("sheet(0, 0, " + n + ")", x -> x.sheet(0, 0, n));
        for (int which = NEW; which <= FILLED; which++) {
            for (int n : new int[] {-1, LEAST}) {
                finding(which, "sheet(0, 2, " + n + ")", x -> x.sheet(0, 2, n), SIZE);
                finding(which, "sheet(3, 2, " + n + ")", x -> x.sheet(3, 2, n), SIZE);
            }
            finding(which, "lose(3)", x -> x.lose(3), NULL);
        }
    }

    // put(): "BAD; NULL; CAST; INDEX"
    private static void puts() {
        for (int s : beyond(4)) bad("put(" + s + ", 2, 0, 9)", x -> x.put(s, 2, 0, 9));
        for (int form : beyond(3)) {
            bad("put(0, " + form + ", 0, 9)", x -> x.put(0, form, 0, 9));
            bad("put(3, " + form + ", 0, 9)", x -> x.put(3, form, 0, 9));
        }
        for (int which = NEW; which <= FILLED; which++) {
            finding(which, "put(3, 2, 0, 9)", x -> x.put(3, 2, 0, 9), NULL);
            finding(which, "put(3, 0, 99, 9)", x -> x.put(3, 0, 99, 9), NULL);
        }
        for (int which = SOME; which <= FILLED; which++) {
            finding(which, "put(0, 1, 0, 9)", x -> x.put(0, 1, 0, 9), CAST);
            finding(which, "put(0, 0, 0, 9)", x -> x.put(0, 0, 0, 9), CAST);
            finding(which, "put(0, 0, -1, 9)", x -> x.put(0, 0, -1, 9), CAST);
            finding(which, "put(2, 0, 0, 9)", x -> x.put(2, 0, 0, 9), INDEX);
            for (int i : beyond(which == SOME ? 5 : 60)) {
                finding(which, "put(0, 2, " + i + ", 9)", x -> x.put(0, 2, i, 9), INDEX);
            }
        }
    }

    private static void least(int which, String name, Call call, int found) {
        refused(which, name, call, LEAST, found);
    }

    // get(): "BAD: the least int; so are NULL, CAST, INDEX (count() 8 tells)"
    private static void gets() {
        for (int which = NEW; which <= FILLED; which++) {
            for (int s : beyond(4)) least(which, "get(" + s + ", 2, 0)", x -> x.get(s, 2, 0), FOUND[which]);
            for (int form : beyond(3)) {
                least(which, "get(0, " + form + ", 0)", x -> x.get(0, form, 0), FOUND[which]);
                least(which, "get(3, " + form + ", 0)", x -> x.get(3, form, 0), FOUND[which]);
            }
            least(which, "get(3, 2, 0)", x -> x.get(3, 2, 0), 1);
            least(which, "get(3, 0, 99)", x -> x.get(3, 0, 99), 1);
        }
        for (int which = SOME; which <= FILLED; which++) {
            least(which, "get(0, 1, 0)", x -> x.get(0, 1, 0), 3);
            least(which, "get(0, 0, 99)", x -> x.get(0, 0, 99), 3);
            least(which, "get(2, 0, 0)", x -> x.get(2, 0, 0), 2);
            for (int i : beyond(which == SOME ? 5 : 60)) {
                least(which, "get(0, 2, " + i + ")", x -> x.get(0, 2, i), 2);
            }
        }
    }

    // copy(): "BAD: the SHEETS; NULL: s, t; STORE; INDEX"
    private static void copies() {
        for (int s : beyond(4)) {
            bad("copy(" + s + ", 0, 0, 0, 1)", x -> x.copy(s, 0, 0, 0, 1));
            bad("copy(0, 0, " + s + ", 0, 1)", x -> x.copy(0, 0, s, 0, 1));
            bad("copy(" + s + ", 0, 3, 0, 1)", x -> x.copy(s, 0, 3, 0, 1));
            bad("copy(3, 0, " + s + ", 0, 1)", x -> x.copy(3, 0, s, 0, 1));
        }
        for (int which = NEW; which <= FILLED; which++) {
            finding(which, "copy(3, 0, 0, 0, 1)", x -> x.copy(3, 0, 0, 0, 1), NULL);
            finding(which, "copy(0, 0, 3, 0, 1)", x -> x.copy(0, 0, 3, 0, 1), NULL);
            finding(which, "copy(3, -1, 3, 99, -1)", x -> x.copy(3, -1, 3, 99, -1), NULL);
        }
        for (int which = SOME; which <= FILLED; which++) {
            finding(which, "copy(0, 0, 1, 0, 1)", x -> x.copy(0, 0, 1, 0, 1), STORE);
            finding(which, "copy(1, 0, 2, 0, 0)", x -> x.copy(1, 0, 2, 0, 0), STORE);
            finding(which, "copy(0, -1, 1, 99, -1)", x -> x.copy(0, -1, 1, 99, -1), STORE);
            int n = which == SOME ? 5 : 60;
            finding(which, "copy(2, 0, 2, 0, 1)", x -> x.copy(2, 0, 2, 0, 1), INDEX);
            finding(which, "copy(0, 0, 0, 1, n)", x -> x.copy(0, 0, 0, 1, n), INDEX);
            finding(which, "copy(0, 1, 0, 0, n)", x -> x.copy(0, 1, 0, 0, n), INDEX);
            for (int i : new int[] {-1, n + 1, LEAST, MOST}) {
                finding(which, "copy(0, " + i + ", 0, 0, 0)", x -> x.copy(0, i, 0, 0, 0), INDEX);
                finding(which, "copy(0, 0, 0, " + i + ", 0)", x -> x.copy(0, 0, 0, i, 0), INDEX);
                finding(which, "copy(0, 0, 0, 0, " + i + ")", x -> x.copy(0, 0, 0, 0, i), INDEX);
                finding(which, "copy(0, 1, 0, 1, " + i + ")", x -> x.copy(0, 1, 0, 1, i), INDEX);
            }
        }
    }

    // write(): "BAD; NULL"
    private static void writes() {
        for (int day : beyond(30)) {
            bad("write(" + day + ", 0)", x -> x.write(day, 0));
            bad("write(" + day + ", 3)", x -> x.write(day, 3));
        }
        for (int s : beyond(4)) bad("write(9, " + s + ")", x -> x.write(9, s));
        for (int which = NEW; which <= FILLED; which++) {
            finding(which, "write(9, 3)", x -> x.write(9, 3), NULL);
        }
    }

    // undo(): "NOT: it is empty"
    private static void nots() {
        for (int text = 0; text < 3; text++) {
            int t = text;
            refused(NEW, "undo(" + t + ")", x -> x.undo(t), NOT, 0);
        }
    }

    // type(), seen(): "FULL"; a read() that takes none is no refusal, and changes nothing either
    private static void fulls() {
        for (int text = 0; text < 3; text++) {
            int t = text;
            for (int b : new int[] {0, ';', '0', 255}) {
                refused(FILLED, "type(" + t + ", " + b + ")", x -> x.type(t, b), FULL, FOUND[FILLED]);
            }
        }
        refused(FILLED, "seen(0, 0, 0)", x -> x.seen(0, 0, 0), FULL, FOUND[FILLED]);
        refused(FILLED, "seen(29, 7, 999)", x -> x.seen(29, 7, 999), FULL, FOUND[FILLED]);
        refused(FILLED, "read(0)", x -> x.read(0), 0, FOUND[FILLED]);
    }
}
