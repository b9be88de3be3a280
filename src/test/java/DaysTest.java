/** Promises 10 to 16: what sailors owe and hold, where they are, what houses take, who sails. */
public final class DaysTest {
    private static final Check check = new Check("DaysTest");

    public static void main(String[] args) {
        paying();
        lodging();
        taking();
        looking();
        sailingAgainAndAgain();
        richestAndLast();
        refusals();
        check.end();
    }

    private static void paying() {
        TideMen x = Check.town("a110;s920;t500;d990", "24", "");
        int[][] owes = {{0, 0, 7, 1}, {0, 0, 14, 1}, {0, 0, 21, 1}, {2, 0, 28, 1}, {5, 0, 35, 1}, {8, 4, 42, 1}};
        int[][] holds = {{7, 16, 0, 90}, {4, 12, 0, 90}, {1, 8, 0, 90}, {0, 4, 0, 90}, {0, 0, 0, 90}, {0, 0, 0, 90}};
        int[] takes = {7, 14, 21, 26, 30, 30};
        for (int day = 0; day < 6; day++) {
            int owed = 0;
            for (int s = 0; s < 4; s++) {
                owed += owes[day][s];
                check.due("owes(" + day + ", " + s + ")", x.owes(day, s), owes[day][s]);
                check.due("purse(" + day + ", " + s + ")", x.purse(day, s), holds[day][s]);
                check.due("where(" + day + ", " + s + ")", x.where(day, s), 0);
            }
            check.due("takes(" + day + ", 0, 0)", x.takes(day, 0, 0), takes[day]);
            check.due("takes(" + day + ", 0, 1)", x.takes(day, 0, 1), owed);
        }
        check.due("owes(29, 2)", x.owes(29, 2), 210);
        check.due("owes(29, 0)", x.owes(29, 0), 80);
    }

    private static void lodging() {
        TideMen x = Check.town("a091;a010;a000;d007;a001", "11;12", "05910");
        int[] where = {1, 0, -1, -1, 1};
        int[] behind = {1, 0, -1, -1, 8};
        for (int s = 0; s < 5; s++) {
            check.due("where(4, " + s + ")", x.where(4, s), where[s]);
            check.due("where(29, " + s + ")", x.where(29, s), behind[s]);
        }
        check.due("who is nowhere pays nothing", x.owes(29, 2), 0);
        check.due("a dead one owes 1 nowhere, too", x.owes(29, 3), 1);
        check.due("taken are those alone that lodge", x.crew(0, 0), 1 << 4);
        check.due("a bed left free stays free", x.where(29, 2), -1);
        check.due("takes(29, 0, 1)", x.takes(29, 0, 1), 20);
    }

    private static void taking() {
        // owed by day 5: 15, 20, 20, 5, nothing
        TideMen x = Check.town("a200;a300;a300;a000;a090", "19", "05350");
        check.due("crew(0, 0)", x.crew(0, 0), 0b111);
        check.due("crew(0, 1)", x.crew(0, 1), 0);
        check.due("crew(0, 2)", x.crew(0, 2), 0b111);
        check.due("crew(0, 3)", x.crew(0, 3), 3);
        check.due("crew(0, 4)", x.crew(0, 4), 0);
        check.due("takes(4, 0, 1)", x.takes(4, 0, 1), 60);
        check.due("takes(4, 0, 0)", x.takes(4, 0, 0), 5);
        check.due("takes(5, 0, 0)", x.takes(5, 0, 0), 5 + 150 + 1);
        check.due("takes(5, 0, 1)", x.takes(5, 0, 1), 6);
        check.due("where(4, 0)", x.where(4, 0), 0);
        check.due("where(5, 0)", x.where(5, 0), 8);
        check.due("owes(5, 0)", x.owes(5, 0), 0);
        check.due("owes(29, 0)", x.owes(29, 0), 0);
        TideMen y = Check.town("a200;a300;a300;a000;a090", "19", "05150");
        check.due("of like ones the least", y.crew(0, 0), 0b010);
        TideMen z = Check.town("a200;a300;a300;a000;a090", "19", "05950");
        check.due("who owes nothing is not taken", z.crew(0, 0), 0b01111);
        check.due("short", z.crew(0, 4), 5);
        TideMen w = Check.town("a200", "19", "00150");
        check.due("on day 0 nobody owes", w.crew(0, 0), 0);
        check.due("short of all", w.crew(0, 4), 1);
    }

    private static void looking() {
        // owed by day 5: t 25, a 20, d 1
        TideMen x = Check.town("d000;a300;t400", "19", "05310;05210");
        check.due("it looks at none: who sails", x.crew(0, 2), 0b111);
        check.due("it looks at none: how many are sound", x.crew(0, 3), 1);
        TideMen y = Check.town("d050;a300;t400", "19", "05311;06910");
        check.due("taken", y.crew(0, 0), 0b111);
        check.due("ashore", y.crew(0, 1), 0b100);
        check.due("sails", y.crew(0, 2), 0b011);
        check.due("sound", y.crew(0, 3), 1);
        check.due("short", y.crew(0, 4), 1);
        check.due("ashore he stays", y.where(5, 2), 0);
        check.due("ashore he owes on", y.owes(5, 2), 30);
        check.due("a dead one's purse stays", y.purse(29, 0), 50);
        check.due("a later ship takes him", y.where(6, 2), 9);
        check.due("takes", y.takes(29, 0, 0), 30);
        TideMen z = Check.town("d000;a300;t400", "19", "05312");
        check.due("it looks at two", z.crew(0, 1), 0b100);
        TideMen w = Check.town("d000;a300;t400", "19", "05313;05910");
        check.due("it looks at three", w.crew(0, 1), 0b101);
        check.due("the next ship of the day takes them", w.crew(1, 2), 0b101);
        check.due("none of them is sound", w.crew(1, 3), 0);
        TideMen v = Check.town("s000", "19", "05119");
        check.due("a sober one is sound", v.crew(0, 3), 1);
    }

    private static void sailingAgainAndAgain() {
        TideMen x = Check.town("a200;a100", "11;12", "07120;03110");
        check.due("who lodges alone is taken", x.crew(1, 0), 1);
        check.due("nobody is left", x.crew(0, 0), 0);
        check.due("where(3, 0)", x.where(3, 0), 9);
        check.due("where(29, 1)", x.where(29, 1), -1);
        check.due("count(6)", x.count(6), 1);
        x.wipe(1);
        Check.type(x, 1, "12");
        check.due("now both lodge and sail", x.count(6), 2);
        check.due("where(29, 1)", x.where(29, 1), 8);
        check.due("takes(29, 0, 0)", x.takes(29, 0, 0), 30);
    }

    private static void richestAndLast() {
        TideMen x = Check.town("a010;a021", "19;19", "20110;15130");
        check.due("richest(0): alike", x.richest(0), 0);
        check.due("richest(9)", x.richest(9), 0);
        check.due("richest(10)", x.richest(10), 1);
        check.due("richest(15): house 0 was paid", x.richest(15), 0);
        check.due("last()", x.last(), 0);
        TideMen y = Check.town("a310;a020;a400;a200", "19", "20110;15230;15110");
        check.due("crew(1, 2)", y.crew(1, 2), 0b0101);
        check.due("crew(2, 2)", y.crew(2, 2), 0b1000);
        check.due("crew(0, 2)", y.crew(0, 2), 0);
        check.due("last(): of the ship that came last with men", y.last(), 3);
        TideMen z = Check.town("a300;a400;a000", "19", "15110;12210");
        check.due("crew(1, 2)", z.crew(1, 2), 0b011);
        check.due("last(): ships as they came", z.last(), 2);
        TideMen w = Check.town("a300;a400;a090", "19", "15110;12210");
        check.due("last(): the greatest number of its ship", w.last(), 1);
        TideMen v = Check.town("a090;a091", "09;09", "15110");
        check.due("richest where none takes", v.richest(29), 0);
        check.due("last() where none sails", Check.town("s090", "09", "15110").last(), -1);
        check.due("richest without houses", Check.town("a000", "", "").richest(0), -1);
    }

    private static void refusals() {
        TideMen x = Check.town("a000;a000", "12", "05110");
        int[][] bad = {{-1, 0}, {30, 0}, {0, -1}, {0, 2}, {Integer.MIN_VALUE, 0}, {0, Integer.MAX_VALUE}};
        for (int[] b : bad) {
            String row = "(" + b[0] + ", " + b[1] + ")";
            check.due("owes" + row, x.owes(b[0], b[1]), -2);
            check.due("purse" + row, x.purse(b[0], b[1]), -2);
            check.due("where" + row, x.where(b[0], b[1]), -2);
            check.due("takes" + row, x.takes(b[0], b[1], 0), -2);
        }
        check.due("takes(0, 1, 0)", x.takes(0, 1, 0), -2);
        check.due("takes(0, 0, -1)", x.takes(0, 0, -1), -2);
        check.due("takes(0, 0, 2)", x.takes(0, 0, 2), -2);
        check.due("crew(-1, 0)", x.crew(-1, 0), -2);
        check.due("crew(1, 0)", x.crew(1, 0), -2);
        check.due("crew(0, -1)", x.crew(0, -1), -2);
        check.due("crew(0, 5)", x.crew(0, 5), -2);
        check.due("richest(-1)", x.richest(-1), -2);
        check.due("richest(30)", x.richest(30), -2);
    }
}
