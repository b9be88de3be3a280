/** Promises 17 to 20: the best price, the latest lodging, how many to look at, the ships that had better not come. */
public final class PlansTest {
    private static final Check check = new Check("PlansTest");

    public static void main(String[] args) {
        prices();
        lodgings();
        looks();
        leaving();
        refusals();
        check.end();
    }

    private static void prices() {
        TideMen x = Check.town("a020", "91", "");
        check.due("price(0, 0): any but 0 takes the purse", x.price(0, 0), 1);
        check.due("price(0, 1)", x.price(0, 1), 20);
        check.due("its own price stands", x.house(0, 0), 9);
        TideMen y = Check.town("a020", "01", "05150");
        // at 4 coins a day the purse is empty behind day 4, and he owes nothing by the tide
        check.due("price(0, 0): purse and advance", y.price(0, 0), 5);
        check.due("price(0, 1)", y.price(0, 1), 70);
        TideMen z = Check.town("d090", "31", "05150");
        check.due("price(0, 0): all alike", z.price(0, 0), 0);
        check.due("price(0, 1)", z.price(0, 1), 50);
        TideMen w = Check.town("a000", "31;01", "");
        check.due("price(1, 0) of an empty house", w.price(1, 0), 0);
        check.due("price(1, 1)", w.price(1, 1), 0);
        TideMen v = Check.town("s090", "01", "");
        check.due("price(0, 0): 60 coins at 1, 90 from 2 on", v.price(0, 0), 2);
        check.due("price(0, 1)", v.price(0, 1), 90);
    }

    private static void lodgings() {
        TideMen x = Check.town("a500;a001", "12;91", "03110;06110");
        check.due("lodge(1, 0)", x.lodge(1, 0), 0);
        check.due("lodge(1, 1)", x.lodge(1, 1), 6);
        check.due("where he is indeed", x.where(3, 1), 8);
        TideMen y = Check.town("a000", "11;01;01", "05110");
        check.due("never is latest", y.lodge(0, 0), 1);
        check.due("on no day", y.lodge(0, 1), -1);
        TideMen z = Check.town("a000;a000;a007", "11;11", "05910");
        check.due("its bed is not free", z.lodge(1, 0), 1);
        check.due("on day 5", z.lodge(1, 1), 5);
        check.due("of like ones the least", z.lodge(0, 0), 0);
        check.due("an ill-lodged one finds a bed", z.lodge(2, 0), 1);
        TideMen w = Check.town("a000;a000", "11", "05910");
        check.due("in none he lodges", w.lodge(1, 0), -1);
        check.due("so on no day", w.lodge(1, 1), -1);
        check.due("lodge(0, 1)", w.lodge(0, 1), 5);
        check.due("no houses: which", Check.town("a000", "", "").lodge(0, 0), -1);
        check.due("no houses: when", Check.town("a000", "", "").lodge(0, 1), -1);
    }

    private static void looks() {
        check.due("look: t, a, d as taken", Check.town("t500;a000;d000", "19", "05319").look(0), 3);
        check.due("look: only t and a are taken", Check.town("t500;a000;d000", "19", "05210").look(0), 1);
        check.due("look: a, t as taken", Check.town("t500;a900;d000", "19", "05210").look(0), 2);
        check.due("look: only sound ones", Check.town("a500;s000", "19", "05215").look(0), 0);
        check.due("look: none is taken", Check.town("t090", "09", "05215").look(0), 0);
        check.due("look: eight", Check.town("d000;d000;d000;d000;d000;d000;d000;d000", "19", "05915").look(0), 8);
        TideMen x = Check.town("t500;d000", "19", "05110;05110");
        check.due("look: the second ship takes the dead one", x.look(1), 1);
        check.due("what it looks at stands", x.ship(1, 3), 0);
    }

    private static void leaving() {
        TideMen x = Check.town("a000", "11", "05110;10110;15110");
        check.due("three ships: no two are enough", x.leave(0, -1), -1);
        check.due("no first", x.leave(0, 0), -1);
        x.wipe(2);
        Check.type(x, 2, "05110;10110");
        check.due("two ships", x.leave(0, -1), 2);
        check.due("the first", x.leave(0, 0), 0);
        check.due("the second", x.leave(0, 1), 1);
        x.wipe(2);
        Check.type(x, 2, "05110");
        check.due("one ship", x.leave(0, -1), 1);
        check.due("it", x.leave(0, 0), 0);
        check.due("no second", x.leave(0, 1), -1);
        x.wipe(2);
        check.due("no ship", x.leave(0, -1), 0);
        check.due("no first", x.leave(0, 0), -1);
        TideMen y = Check.town("a500;a000", "12", "15110;05110;10110");
        check.due("rows go by numbers", y.leave(1, -1), 2);
        check.due("rows go by numbers: first", y.leave(1, 0), 0);
        check.due("rows go by numbers: second", y.leave(1, 1), 1);
        TideMen z = Check.town("a500;a000", "12", "00110;05110;10110");
        check.due("the ship that takes another may stay away", z.leave(1, -1), 1);
        check.due("it is the first of two", z.leave(1, 0), 1);
        TideMen w = Check.town("a000", "11", "00110;10110;01110");
        check.due("0 and 1 are not enough", w.leave(0, -1), 2);
        check.due("1 is needed", w.leave(0, 0), 1);
        check.due("2 is needed", w.leave(0, 1), 2);
    }

    private static void refusals() {
        TideMen x = Check.town("a000;a000", "12", "05110");
        int[][] bad = {{-1, 0}, {2, 0}, {0, 2}, {0, -2}, {Integer.MIN_VALUE, 0}, {0, Integer.MAX_VALUE}};
        for (int[] b : bad) {
            String row = "(" + b[0] + ", " + b[1] + ")";
            check.due("price" + row, x.price(b[0], b[1]), -2);
            check.due("lodge" + row, x.lodge(b[0], b[1]), -2);
            check.due("leave" + row, x.leave(b[0], b[1]), -2);
        }
        check.due("price(1, 0)", x.price(1, 0), -2);
        check.due("price(0, -1)", x.price(0, -1), -2);
        check.due("lodge(0, -1)", x.lodge(0, -1), -2);
        check.due("look(-1)", x.look(-1), -2);
        check.due("look(1)", x.look(1), -2);
    }
}
