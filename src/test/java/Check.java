/** Counts the calls whose answer is not the one that is due, and prints each. */
final class Check {
    private final String title;
    private int calls = 0;
    private int wrong = 0;

    Check(String title) {
        this.title = title;
    }

    void due(String call, long got, long want) {
        calls++;
        if (got != want) {
            wrong++;
            System.out.println(title + ": " + call + " answered " + got + ", due is " + want);
        }
    }

    boolean isWell() {
        return wrong == 0;
    }

    void end() {
        System.out.println(title + ": " + calls + " answers looked at, " + wrong + " wrong");
        if (wrong != 0) {
            System.exit(1);
        }
    }

    static void type(TideMen x, int text, String bytes) {
        for (char b : bytes.toCharArray()) {
            x.type(text, b);
        }
    }

    void same(String call, String got, String want) {
        calls++;
        if (!got.equals(want)) {
            wrong++;
            System.out.println(title + ": " + call + " left behind " + got + "\n  due is " + want);
        }
    }

    static void fill(TideMen x, int s, int form, int... items) {
        x.sheet(s, form, items.length);
        for (int i = 0; i < items.length; i++) {
            x.put(s, form, i, items[i]);
        }
    }

    static TideMen town(String sailors, String houses, String ships) {
        TideMen x = new TideMen();
        type(x, 0, sailors);
        type(x, 1, houses);
        type(x, 2, ships);
        return x;
    }
}
