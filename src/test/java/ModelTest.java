import java.util.Random;

/** Long runs of calls, drawn by fixed seeds: the class and the slow Model answer alike. */
public final class ModelTest {
    private static final int RUNS = 400, CALLS = 512, MOST_AT_ONCE = 60;
    private static final int[] EDGES = {Integer.MIN_VALUE, -2, -1, 0, 1, 2, 3, 7, 8, 9, 10, 29, 30, 60, 61, 255, 256,
        999, 1000, Integer.MAX_VALUE};

    public static void main(String[] args) {
        Check check = new Check("ModelTest");
        for (int run = 0; run < RUNS && check.isWell(); run++) {
            new ModelTest(run, check).go();
        }
        check.end();
    }

    private final Random r;
    private final int run;
    private final Check check;
    private final TideMen x = new TideMen();
    private final Model y = new Model();
    private int calls = 0;

    private ModelTest(int run, Check check) {
        this.run = run;
        this.check = check;
        r = new Random(9000 + run);
    }

    private void go() {
        // an object is asked no more than the document promises: a step makes a text anew, and up to a dozen calls
        while (calls <= CALLS - MOST_AT_ONCE && check.isWell()) {
            if (calls == 0 || r.nextInt(90) == 0) {
                retype(r.nextInt(9) == 0 ? r.nextInt(3) : calls == 0 ? -1 : r.nextInt(3));
            }
            call();
        }
    }

    private void retype(int only) {
        for (int text = 0; text < 3; text++) {
            if (only >= 0 && only != text) continue;
            due("wipe " + text, x.wipe(text), y.wipe(text));
            String s = words(text);
            for (char b : s.toCharArray()) due("type " + text + " " + (int) b, x.type(text, b), y.type(text, b));
        }
    }

    private String words(int text) {
        StringBuilder s = new StringBuilder();
        int many = r.nextInt(4) == 0 ? r.nextInt(3) : 1 + r.nextInt(text == 2 ? 6 : 8);
        if (text == 1 && r.nextBoolean()) many = 1 + r.nextInt(4);
        int spread = 1 + r.nextInt(8);
        for (int i = 0; i < many; i++) {
            if (i > 0) s.append(';');
            if (text == 0) {
                s.append("aaastd".charAt(r.nextInt(6))).append(r.nextInt(10)).append(r.nextInt(2) * r.nextInt(10));
                s.append(r.nextInt(spread));
            } else if (text == 1) {
                s.append(r.nextInt(10)).append(1 + r.nextInt(spread));
            } else {
                int day = r.nextInt(spread < 4 ? 9 : 30);
                s.append(day / 10).append(day % 10).append(1 + r.nextInt(1 + r.nextInt(9)));
                s.append(r.nextInt(10)).append(r.nextInt(r.nextInt(3) == 0 ? 10 : 3));
            }
        }
        if (r.nextInt(25) == 0 && s.length() > 0) s.setCharAt(r.nextInt(s.length()), (char) r.nextInt(256));
        if (r.nextInt(25) == 0) s.append((char) r.nextInt(256));
        return s.toString();
    }

    private int pick(int many) {
        return r.nextInt(12) == 0 ? EDGES[r.nextInt(EDGES.length)] : r.nextInt(many);
    }

    private int men() {
        return pick(Math.max(1, y.count(0)));
    }

    private int inns() {
        return pick(Math.max(1, y.count(1)));
    }

    private int ships() {
        return pick(Math.max(1, y.count(2)));
    }

    private void due(String call, long got, long want) {
        calls++;
        check.due("run " + run + ": " + call, got, want);
    }

    private void call() {
        int a = pick(30), b, c, d, e;
        switch (r.nextInt(38)) {
            case 0: a = pick(3); b = r.nextInt(5) == 0 ? pick(256) : "astd0123456789;".charAt(r.nextInt(15));
                due("type " + a + " " + b, x.type(a, b), y.type(a, b)); break;
            case 1: a = pick(40); due("wipe " + a, x.wipe(a), y.wipe(a)); break;
            case 2: a = pick(20); due("undo " + a, x.undo(a), y.undo(a)); break;
            case 3: a = pick(3); due("fault " + a, x.fault(a), y.fault(a)); break;
            case 4: a = men(); b = pick(4); due("sailor " + a + " " + b, x.sailor(a, b), y.sailor(a, b)); break;
            case 5: a = inns(); b = pick(2); due("house " + a + " " + b, x.house(a, b), y.house(a, b)); break;
            case 6: a = ships(); b = pick(4); due("ship " + a + " " + b, x.ship(a, b), y.ship(a, b)); break;
            case 7: a = pick(10); due("cap " + a, x.cap(a), y.cap(a)); break;
            case 8: b = men(); due("owes " + a + " " + b, x.owes(a, b), y.owes(a, b)); break;
            case 9: b = men(); due("purse " + a + " " + b, x.purse(a, b), y.purse(a, b)); break;
            case 10: b = men(); due("where " + a + " " + b, x.where(a, b), y.where(a, b)); break;
            case 11: b = inns(); c = pick(2);
                due("takes " + a + " " + b + " " + c, x.takes(a, b, c), y.takes(a, b, c)); break;
            case 12: a = ships(); b = pick(5); due("crew " + a + " " + b, x.crew(a, b), y.crew(a, b)); break;
            case 13: due("richest " + a, x.richest(a), y.richest(a)); break;
            case 14: due("last", x.last(), y.last()); break;
            case 15: a = inns(); b = pick(2); due("price " + a + " " + b, x.price(a, b), y.price(a, b)); break;
            case 16: case 17: a = men(); b = pick(2); due("lodge " + a + " " + b, x.lodge(a, b), y.lodge(a, b)); break;
            case 18: a = ships(); due("look " + a, x.look(a), y.look(a)); break;
            case 19: a = men(); b = pick(3) - 1; due("leave " + a + " " + b, x.leave(a, b), y.leave(a, b)); break;
            case 20: see(a); break;
            case 21: due("forget", x.forget(), y.forget()); break;
            case 22: fillAndRead(); break;
            case 23: due("never", x.never(), y.never()); break;
            case 24: case 25: a = men(); b = pick(2); due("was " + a + " " + b, x.was(a, b), y.was(a, b)); break;
            case 26: due("ask " + a, x.ask(a), y.ask(a)); break;
            case 27: b = pick(17); c = men(); d = pick(2);
                due("storm " + b + " " + c + " " + a + " " + d, x.storm(b, c, a, d), y.storm(b, c, a, d)); break;
            case 28: a = r.nextInt(); b = r.nextInt(3) == 0 ? -1 : inns();
                due("port " + a + " " + b, x.port(a, b), y.port(a, b)); break;
            case 29: case 30: a = pick(4); b = pick(3); c = pick(61);
                due("sheet " + a + " " + b + " " + c, x.sheet(a, b, c), y.sheet(a, b, c)); break;
            case 31: a = pick(9); due("lose " + a, x.lose(a), y.lose(a)); break;
            case 32: a = pick(4); b = pick(3); c = pick(20); d = r.nextBoolean() ? r.nextInt() : pick(300);
                due("put " + a + " " + b + " " + c, x.put(a, b, c, d), y.put(a, b, c, d)); break;
            case 33: case 34: a = pick(4); b = pick(3); c = pick(20);
                due("get " + a + " " + b + " " + c, x.get(a, b, c), y.get(a, b, c)); break;
            case 35: a = pick(4); b = pick(10); c = pick(4); d = pick(10); e = pick(20);
                due("copy " + a + " " + b + " " + c + " " + d + " " + e,
                    x.copy(a, b, c, d, e), y.copy(a, b, c, d, e)); break;
            case 36: b = pick(4); due("write " + a + " " + b, x.write(a, b), y.write(a, b)); break;
            default: a = pick(9); due("count " + a, x.count(a), y.count(a));
                if (r.nextInt(12) == 0) due("digest", x.digest(), y.digest());
        }
    }

    // mostly what a house took indeed, so that what was seen can come out so
    private void see(int day) {
        int h = inns();
        int much = y.takes(day, h, 0);
        if (much < 0 || r.nextInt(6) == 0) much = pick(1000);
        due("seen " + day + " " + h + " " + much, x.seen(day, h, much), y.seen(day, h, much));
        due("never", x.never(), y.never());
    }

    private void fillAndRead() {
        int s = r.nextInt(4), form = r.nextInt(3), n = r.nextInt(10);
        if (r.nextInt(3) > 0) {
            due("sheet", x.sheet(s, form, n), y.sheet(s, form, n));
            for (int i = 0; i < n; i++) {
                int v = r.nextInt(15) == 0 ? -1 : i % 3 == 1 ? r.nextInt(9) : r.nextInt(31);
                due("put", x.put(s, form, i, v), y.put(s, form, i, v));
            }
        }
        due("read " + s, x.read(s), y.read(s));
        due("count 7", x.count(7), y.count(7));
        due("count 8", x.count(8), y.count(8));
    }
}
