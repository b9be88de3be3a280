/** All that an object tells of itself but count(8). Asking takes the object to pieces, in fewer than 300 calls. */
final class State {
    private static final int ITEMS = 60, SIZE = 5, LEAST = Integer.MIN_VALUE;
    private final StringBuilder told = new StringBuilder();
    private final TideMen x;

    static String of(TideMen x) {
        State s = new State(x);
        s.texts();
        s.things();
        s.row(" cap", x.cap(0));
        x.cap(9);
        for (int sheet = 0; sheet < 4; sheet++) {
            s.sheet(sheet);
        }
        s.row(" forget", x.forget());
        s.row(" undone", x.undo(0), x.undo(1), x.undo(2), x.fault(0), x.fault(1), x.fault(2));
        return s.told.toString();
    }

    private State(TideMen x) {
        this.x = x;
    }

    private void row(String name, long... row) {
        told.append(name);
        for (long r : row) {
            told.append(' ').append(r);
        }
    }

    private void texts() {
        for (int what = 0; what < 8; what++) {
            row(" count", x.count(what));
        }
        row(" faults", x.fault(0), x.fault(1), x.fault(2));
        row(" digest", x.digest());
    }

    private void things() {
        for (int i = 0; i < x.count(0); i++) {
            row(" sailor", x.sailor(i, 0), x.sailor(i, 1), x.sailor(i, 2), x.sailor(i, 3), x.owes(29, i));
        }
        for (int i = 0; i < x.count(1); i++) {
            row(" house", x.house(i, 0), x.house(i, 1), x.takes(29, i, 0));
        }
        for (int i = 0; i < x.count(2); i++) {
            row(" ship", x.ship(i, 0), x.ship(i, 1), x.ship(i, 2), x.ship(i, 3), x.crew(i, 2));
        }
    }

    // each refused sheet(0, 0, -1) sets count(8) to SIZE, so that what it says next is of the get alone
    private void sheet(int s) {
        for (int form = 0; form < 3; form++) {
            x.sheet(0, 0, -1);
            row(" form " + form, x.get(s, form, 0), x.count(8));
        }
        for (int form = 0; form < 3; form++) {
            x.sheet(0, 0, -1);
            for (int i = 0; i < ITEMS; i++) {
                int v = x.get(s, form, i);
                if (v == LEAST && x.count(8) != SIZE) {
                    break;
                }
                row("", v);
            }
        }
        row(" lost", x.lose(s));
    }
}
