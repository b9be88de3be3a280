/** Promises 17 to 20, at their edges: above each test stands the sentence of the document that it looks at. */
public final class PlanEdgesTest {
    private static final Check check = new Check("PlanEdgesTest");
    private static final int BAD = -2, NONE = -1, LEAST = Integer.MIN_VALUE, MOST = Integer.MAX_VALUE;
    private static final String EIGHT = "11;11;11;11;11;11;11;11", SIX = "05100;06100;07100;08100;09100;10100";

    public static void main(String[] args) {
        priceFrom0();
        priceTo9();
        priceOfLikeOnes();
        priceByDay29();
        priceOfEachHouse();
        priceLeavesItsOwn();
        lodgeSailsLatest();
        lodgeNeverIsLatest();
        lodgeNowhereIsNoHouse();
        lodgeOfLikeOnes();
        lodgeOnTheFirstAndTheLastDay();
        lodgeInNone();
        lodgeOfEachSailor();
        lookAtNone();
        lookAtSome();
        lookAtAll();
        lookIsNeverNone();
        lookOfEachShip();
        leaveNone();
        leaveOne();
        leaveTwo();
        leaveMore();
        leaveOfLikeOnes();
        leaveTheIth();
        leaveOfEachSailor();
        check.end();
    }

    private static void priceIs(String name, TideMen x, int house, int which, int much) {
        check.due(name + ": which", x.price(house, 0), which);
        check.due(name + ": how much", x.price(house, 1), much);
    }

    // PRICE: "that (0 to 9)": from 1 on he owes by day 10 and is taken for nothing, by 0 the next day, for 90
    private static void priceFrom0() {
        priceIs("0 is best", Check.town("a990", "51", "10100;11190"), 0, 0, 180);
    }

    // PRICE: "that (0 to 9)": 9 alone, with the thirst of 2, empties a purse of 10 and leaves a debt ahead of day 1
    private static void priceTo9() {
        priceIs("9 is best", Check.town("a210", "01", "01190"), 0, 9, 100);
        priceIs("8 is best", Check.town("a310", "01", "01190"), 0, 8, 100);
    }

    // PRICE: "of like ones the least"
    private static void priceOfLikeOnes() {
        priceIs("all alike", Check.town("d090", "51", "29190"), 0, 0, 90);
        priceIs("3 to 9 alike", Check.town("a090", "91", ""), 0, 3, 90);
        priceIs("all alike nothing", Check.town("a900", "91", ""), 0, 0, 0);
        priceIs("a house of nobody", Check.town("", "91", ""), 0, 0, 0);
    }

    // PRICE: "by DAY 29"
    private static void priceByDay29() {
        priceIs("a tide of day 29", Check.town("a000", "01", "29190"), 0, 1, 90);
        priceIs("a purse that lasts to day 29", Check.town("s060", "01", ""), 0, 1, 60);
        priceIs("a purse beyond it", Check.town("s070", "01", ""), 0, 2, 70);
    }

    // price(): "which (what = 0), how much (1). BAD."
    private static void priceOfEachHouse() {
        TideMen x = Check.town("a017", EIGHT, "");
        priceIs("house 0", x, 0, 0, 0);
        priceIs("house 7", x, 7, 1, 10);
        for (int house : new int[] {-1, 8, LEAST, MOST}) {
            priceIs("house " + house, x, house, BAD, BAD);
        }
        for (int what : new int[] {-1, 2, LEAST, MOST}) {
            check.due("price(0, " + what + ")", x.price(0, what), BAD);
        }
        priceIs("house 0 of none", Check.town("a017", "", ""), 0, BAD, BAD);
    }

    // PRICE: "in place of its own": its own stays
    private static void priceLeavesItsOwn() {
        TideMen x = Check.town("a090", "91", "");
        String due = State.of(Check.town("a090", "91", ""));
        priceIs("3 is best", x, 0, 3, 90);
        check.same("price", State.of(x), due);
    }

    private static void lodgeIs(String name, TideMen x, int sailor, int which, int day) {
        check.due(name + ": which", x.lodge(sailor, 0), which);
        check.due(name + ": on which day", x.lodge(sailor, 1), day);
    }

    // LODGE: "the HOUSE, in place of his own, by which he SAILS latest": by one day
    private static void lodgeSailsLatest() {
        // sailor 0 lodges with him and owes more, where the thirst is: the first ship takes that one
        TideMen x = Check.town("a501;a000", "12;12;12", "05100;06100");
        lodgeIs("each as late", x, 1, 0, 6);
        TideMen y = Check.town("a010", "12;22;32", "06100;11100");
        lodgeIs("the cheap house", y, 0, 0, 11);
        TideMen z = Check.town("a010", "32;22;12", "06100;11100");
        lodgeIs("the cheap house, the last", z, 0, 2, 11);
    }

    // LODGE: "never is latest of all", later than DAY 29, too; "on which DAY (NONE: never)"
    private static void lodgeNeverIsLatest() {
        lodgeIs("never by house 1", Check.town("a000", "11;01;01", "29100"), 0, 1, NONE);
        lodgeIs("never by house 7", Check.town("a000", EIGHT.substring(0, 21) + "01", "29100"), 0, 7, NONE);
        lodgeIs("never by any", Check.town("a000", "11;01;01", ""), 0, 0, NONE);
    }

    // LODGE: "NOWHERE is no HOUSE"
    private static void lodgeNowhereIsNoHouse() {
        TideMen x = Check.town("a000;a000", "11;11", "05900");
        lodgeIs("its bed is taken, he would never sail", x, 1, 1, 5);
        check.due("as he is told, he never sails", x.where(29, 1), NONE);
        lodgeIs("a house that is not there, of his own", Check.town("a007", "11;11", "05900"), 0, 0, 5);
    }

    // LODGE: "of like ones the least"
    private static void lodgeOfLikeOnes() {
        lodgeIs("each on day 5", Check.town("a001", "11;11;11", "05900"), 0, 0, 5);
        lodgeIs("the last two never", Check.town("a000", "11;01;01", "05900"), 0, 1, NONE);
    }

    // LODGE: "on which DAY": 0 and 29
    private static void lodgeOnTheFirstAndTheLastDay() {
        lodgeIs("on day 0", Check.town("d000", "11", "00100"), 0, 0, 0);
        lodgeIs("on day 29", Check.town("a000", "11", "29100"), 0, 0, 29);
    }

    // LODGE: "NONE: in none he lodges"
    private static void lodgeInNone() {
        lodgeIs("no houses", Check.town("a000", "", "05900"), 0, NONE, NONE);
        lodgeIs("no bed is left", Check.town("a000;a001;a000", "11;11", "05900"), 2, NONE, NONE);
        lodgeIs("houses with a fault", Check.town("a000", "11;", "05900"), 0, NONE, NONE);
    }

    // lodge(): "which (what = 0; NONE), on which DAY (1; NONE). BAD."
    private static void lodgeOfEachSailor() {
        TideMen x = Check.town("a000;a000;a000;a000;a000;a000;a000;s000", "09;01", "05900");
        lodgeIs("sailor 7", x, 7, 0, NONE);
        for (int sailor : new int[] {-1, 8, LEAST, MOST}) {
            lodgeIs("sailor " + sailor, x, sailor, BAD, BAD);
        }
        for (int what : new int[] {-1, 2, LEAST, MOST}) {
            check.due("lodge(0, " + what + ")", x.lodge(0, what), BAD);
        }
        check.due("his own house stays", x.sailor(7, 3), 0);
    }

    // LOOK: "the least that it had better LOOK at (0 to 9), so that all who SAIL by it are SOUND": 0
    private static void lookAtNone() {
        check.due("all sound", Check.town("a000;s000", "19", "05909").look(0), 0);
        check.due("the dead one alone", Check.town("t000;d000", "19", "00900").look(0), 1);
        check.due("none is taken", Check.town("t090;a000", "09", "05909").look(0), 0);
        check.due("no sailors", Check.town("", "09", "05909").look(0), 0);
    }

    // the same: one more than those sound ones ahead of the last unsound one
    private static void lookAtSome() {
        check.due("the tailor is first", Check.town("t500;a000", "19", "05900").look(0), 1);
        check.due("the tailor is second", Check.town("t000;a500", "19", "05909").look(0), 2);
        check.due("the tailor is not taken", Check.town("t000;a500", "19", "05109").look(0), 0);
        check.due("first and third", Check.town("t500;a300;d000;s000", "19", "05900").look(0), 4);
    }

    // the same: all eight; of 9 none is left to look at
    private static void lookAtAll() {
        check.due("eight dead", Check.town("d000;d000;d000;d000;d000;d000;d000;d000", "19", "05900").look(0), 8);
        check.due("the eighth dead", Check.town("a000;a000;a000;a000;a000;a000;a000;d000", "19", "05900").look(0), 8);
        check.due("the eighth is not taken",
            Check.town("a000;a000;a000;a000;a000;a000;a000;d000", "19", "05700").look(0), 0);
    }

    // LOOK: "NONE: by none": a ship that looks at 9 looks at all that it takes, so that never comes
    private static void lookIsNeverNone() {
        for (int needs = 1; needs < 10; needs++) {
            int due = Math.min(8, needs);
            String ship = "05" + needs + "00";
            check.due("look of " + needs,
                Check.town("t000;t000;t000;t000;t000;t000;t000;t000", "19", ship).look(0), due);
        }
    }

    // look(): "LOOK; NONE. BAD."
    private static void lookOfEachShip() {
        TideMen x = Check.town("t900", "11", "05101;05101;05101;05101;05101;05100");
        check.due("look(5)", x.look(5), 1);
        check.due("look(0): what it looks at itself does not matter", x.look(0), 1);
        check.due("ship(0, 3) stays", x.ship(0, 3), 1);
        for (int ship : new int[] {-1, 6, LEAST, MOST}) {
            check.due("look(" + ship + ")", x.look(ship), BAD);
        }
        check.due("look(0) of no ships", Check.town("t900", "11", "").look(0), BAD);
    }

    private static void leaveIs(String name, TideMen x, int sailor, int many, int first, int second) {
        check.due(name + ": how many", x.leave(sailor, NONE), many);
        check.due(name + ": the first", x.leave(sailor, 0), first);
        check.due(name + ": the second", x.leave(sailor, 1), second);
    }

    // LEAVE: "the fewest SHIPS (0 to 2)": 0
    private static void leaveNone() {
        leaveIs("no ships", Check.town("a000", "11", ""), 0, 0, NONE, NONE);
        leaveIs("he owes nothing", Check.town("a000", "01", SIX), 0, 0, NONE, NONE);
        leaveIs("he is nowhere", Check.town("a001", "11", SIX), 0, 0, NONE, NONE);
        leaveIs("he is put ashore by all", Check.town("t000", "11", "05109;06109;07109"), 0, 0, NONE, NONE);
    }

    // LEAVE: 1, the first and the last SHIP
    private static void leaveOne() {
        leaveIs("ship 0 of one", Check.town("a000", "11", "05100"), 0, 1, 0, NONE);
        leaveIs("ship 0", Check.town("a000", "11", "05100;00100;00100"), 0, 1, 0, NONE);
        leaveIs("ship 5 of six", Check.town("a000", "11", "00100;00100;00100;00100;00100;29100"), 0, 1, 5, NONE);
    }

    // LEAVE: 2, the first and the last row of them
    private static void leaveTwo() {
        leaveIs("ships 0 and 1", Check.town("a000", "11", "05100;06100;00100"), 0, 2, 0, 1);
        leaveIs("ships 0 and 5", Check.town("a000", "11", "05100;00100;00100;00100;00100;06100"), 0, 2, 0, 5);
        leaveIs("ships 4 and 5", Check.town("a000", "11", "00100;00100;00100;00100;05100;06100"), 0, 2, 4, 5);
    }

    // LEAVE: "NONE": three would have to stay away
    private static void leaveMore() {
        leaveIs("three ships", Check.town("a000", "11", "05100;06100;07100"), 0, NONE, NONE, NONE);
        leaveIs("six ships", Check.town("a000", "11", SIX), 0, NONE, NONE, NONE);
    }

    // LEAVE: "of like ones the least row (each more than the one ahead)"
    private static void leaveOfLikeOnes() {
        // as many ships as there are men: whichever stays away, the least thirsty one is left
        leaveIs("one of three", Check.town("a200;a100;a000", "13", "05100;06100;07100"), 2, 1, 0, NONE);
        leaveIs("two of four", Check.town("a200;a100;a000", "13", "05100;06100;07100;08100"), 2, 2, 0, 1);
        // without 1 and 2 the tailor stands ahead of him at ships 0 and 3, but 0 and 3 is the lesser row
        leaveIs("0 and 3, not 1 and 2", Check.town("a200;t500;a500", "19", "04101;03100;03100;04201"), 0, 2, 0, 3);
        leaveIs("the row is in order, whatever the days", Check.town("a000", "11", "09100;05100"), 0, 2, 0, 1);
    }

    // leave(): "how many (i = NONE), the i-th (0, 1; NONE); NONE. BAD."
    private static void leaveTheIth() {
        TideMen x = Check.town("a000", "11", "05100;06100");
        leaveIs("both", x, 0, 2, 0, 1);
        for (int i : new int[] {-2, 2, LEAST, MOST}) {
            check.due("leave(0, " + i + ")", x.leave(0, i), BAD);
        }
        TideMen y = Check.town("a000", "11", SIX);
        check.due("leave(0, 2) where there is none", y.leave(0, 2), BAD);
        check.due("leave(0, -2) where there is none", y.leave(0, -2), BAD);
    }

    // the same, of a SAILOR that there is not
    private static void leaveOfEachSailor() {
        TideMen x = Check.town("a000;a000;a000;a000;a000;a000;a000;a900", "19", "05100");
        leaveIs("sailor 7", x, 7, 1, 0, NONE);
        leaveIs("sailor 6", x, 6, 0, NONE, NONE);
        for (int sailor : new int[] {-1, 8, LEAST, MOST}) {
            leaveIs("sailor " + sailor, x, sailor, BAD, BAD, BAD);
        }
        leaveIs("sailor 0 of none", Check.town("", "19", "05100"), 0, BAD, BAD, BAD);
    }
}
