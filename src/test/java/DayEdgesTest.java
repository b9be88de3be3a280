/** Promises 10 to 16, at their edges: above each test stands the sentence of the document that it looks at. */
public final class DayEdgesTest {
    private static final Check check = new Check("DayEdgesTest");
    private static final int BAD = -2, NONE = -1, LEAST = Integer.MIN_VALUE, MOST = Integer.MAX_VALUE;
    private static final int[] NO_DAYS = {-1, 30, LEAST, MOST}, NO_SAILORS = {-1, 3, LEAST, MOST};
    private static final String DEAD8 = "d000;d000;d000;d000;d000;d000;d000;d000", ANY8 = DEAD8.replace('d', 'a');

    public static void main(String[] args) {
        daysOfOwes();
        daysOfPurse();
        daysOfWhere();
        daysOfTakes();
        daysOfRichest();
        tideOnTheFirstDay();
        tideOnTheLastDay();
        whatIsOwedAtFirst();
        asLongAsThereAreBeds();
        lodgingByNumbers();
        noSuchHouse();
        nowhereNothingHappens();
        asManyAsItNeeds();
        thoseThatOweSome();
        thoseWhoOweMostFirst();
        ofLikeOnesTheLeast();
        shipsOfOneDayByNumbers();
        looksAtTheFirst();
        looksAtSoundOnes();
        ashoreHeStays();
        housesTakeTheAdvance();
        whoSailedPaysNoMore();
        purseThatJustHolds();
        purseThatHoldsTooLittle();
        emptyAndFullPurse();
        whatEachKindPays();
        dearestMonth();
        whereFrom0To13();
        whatHousesTake();
        whatIsToldOfCrews();
        crewsFullAndEmpty();
        crewsAnew();
        shortOfThoseThatSailed();
        richestOfLikeOnes();
        richestOfNone();
        lastOfOneShip();
        lastByShips();
        lastOfNone();
        check.end();
    }

    // "DAYS are 0 to 29": owes(); of a SAILOR that there is not: BAD
    private static void daysOfOwes() {
        TideMen x = Check.town("a000;a090;d000", "13", "");
        check.due("owes(0, 0)", x.owes(0, 0), 1);
        check.due("owes(29, 0)", x.owes(29, 0), 30);
        check.due("owes(29, 2)", x.owes(29, 2), 1);
        for (int day : NO_DAYS) check.due("owes(" + day + ", 0)", x.owes(day, 0), BAD);
        for (int man : NO_SAILORS) check.due("owes(0, " + man + ")", x.owes(0, man), BAD);
    }

    // the same: purse()
    private static void daysOfPurse() {
        TideMen x = Check.town("a000;a090;d010", "13", "");
        check.due("purse(0, 1)", x.purse(0, 1), 89);
        check.due("purse(29, 1)", x.purse(29, 1), 60);
        check.due("purse(29, 2)", x.purse(29, 2), 10);
        for (int day : NO_DAYS) check.due("purse(" + day + ", 0)", x.purse(day, 0), BAD);
        for (int man : NO_SAILORS) check.due("purse(0, " + man + ")", x.purse(0, man), BAD);
    }

    // the same: where()
    private static void daysOfWhere() {
        TideMen x = Check.town("a000;a007;d000", "13", "29110");
        check.due("where(0, 0)", x.where(0, 0), 0);
        check.due("where(28, 0)", x.where(28, 0), 0);
        check.due("where(29, 0)", x.where(29, 0), 8);
        check.due("where(29, 2)", x.where(29, 2), 0);
        for (int day : NO_DAYS) check.due("where(" + day + ", 0)", x.where(day, 0), BAD);
        for (int man : NO_SAILORS) check.due("where(0, " + man + ")", x.where(0, man), BAD);
    }

    // the same: takes(), of a HOUSE that there is not, too; "takes (what = 0) .. is OWED to it (1). BAD."
    private static void daysOfTakes() {
        TideMen x = Check.town("a000;a090;d001", "12;01", "");
        check.due("takes(0, 0, 0)", x.takes(0, 0, 0), 1);
        check.due("takes(29, 0, 0)", x.takes(29, 0, 0), 30);
        check.due("takes(0, 0, 1)", x.takes(0, 0, 1), 1);
        check.due("takes(29, 0, 1)", x.takes(29, 0, 1), 30);
        check.due("takes(29, 1, 1)", x.takes(29, 1, 1), 1);
        for (int day : NO_DAYS) {
            check.due("takes(" + day + ", 0, 0)", x.takes(day, 0, 0), BAD);
            check.due("takes(" + day + ", 0, 1)", x.takes(day, 0, 1), BAD);
        }
        for (int inn : new int[] {-1, 2, 7, LEAST, MOST}) {
            check.due("takes(0, " + inn + ", 0)", x.takes(0, inn, 0), BAD);
            check.due("takes(0, " + inn + ", 1)", x.takes(0, inn, 1), BAD);
        }
        for (int what : new int[] {-1, 2, LEAST, MOST}) {
            check.due("takes(0, 0, " + what + ")", x.takes(0, 0, what), BAD);
        }
    }

    // the same: richest()
    private static void daysOfRichest() {
        TideMen x = Check.town("a010;a001", "11;11", "29190");
        check.due("richest(0)", x.richest(0), 0);
        check.due("richest(28)", x.richest(28), 0);
        check.due("richest(29)", x.richest(29), 1);
        for (int day : NO_DAYS) check.due("richest(" + day + ")", x.richest(day), BAD);
    }

    // "DAY 00": ahead of the first pay only the dead owe
    private static void tideOnTheFirstDay() {
        TideMen x = Check.town("a900;d000", "12", "00950");
        check.due("crew(0, 0)", x.crew(0, 0), 0b10);
        check.due("where(0, 1)", x.where(0, 1), 8);
        check.due("where(0, 0)", x.where(0, 0), 0);
        check.due("owes(0, 1)", x.owes(0, 1), 0);
        check.due("takes(0, 0, 0)", x.takes(0, 0, 0), 50);
    }

    // "DAY .. 29": it comes ahead of the last pay
    private static void tideOnTheLastDay() {
        TideMen x = Check.town("a000", "11", "29190");
        check.due("crew(0, 2)", x.crew(0, 2), 1);
        check.due("owes(28, 0)", x.owes(28, 0), 29);
        check.due("owes(29, 0)", x.owes(29, 0), 0);
        check.due("takes(28, 0, 0)", x.takes(28, 0, 0), 0);
        check.due("takes(29, 0, 0)", x.takes(29, 0, 0), 90);
        check.due("count(6)", x.count(6), 1);
        check.due("last()", x.last(), 0);
    }

    // "Who is dead OWES 1 coin, others nothing at first."
    private static void whatIsOwedAtFirst() {
        TideMen x = Check.town("a000;s000;t000;d000", "04", "");
        for (int man = 0; man < 4; man++) {
            check.due("owes(0, " + man + ")", x.owes(0, man), man == 3 ? 1 : 0);
            check.due("owes(29, " + man + ")", x.owes(29, man), man == 3 ? 1 : 0);
        }
        TideMen y = Check.town("a000;s000;t000;d000", "04", "29900");
        check.due("so none but the dead is taken", y.crew(0, 0), 0b1000);
    }

    // "as long as there are BEDS; others are NOWHERE"
    private static void asLongAsThereAreBeds() {
        for (int beds = 1; beds < 10; beds++) {
            TideMen x = Check.town(ANY8, "1" + beds, "29900");
            for (int man = 0; man < 8; man++) {
                check.due("where(0, " + man + ") by beds " + beds, x.where(0, man), man < beds ? 0 : NONE);
            }
            check.due("crew(0, 0) by beds " + beds, x.crew(0, 0), (1 << Math.min(8, beds)) - 1);
        }
    }

    // "SAILORS lodge, by numbers, in their HOUSES"
    private static void lodgingByNumbers() {
        TideMen x = Check.town("a001;a000;a000;a001;a001", "11;12", "05110");
        int[] due = {1, 0, NONE, 1, NONE};
        for (int man = 0; man < 5; man++) {
            check.due("where(0, " + man + ")", x.where(0, man), due[man]);
        }
        check.due("the bed of one who sailed stays free", x.where(29, 4), NONE);
    }

    // "(also where there is no such HOUSE)"
    private static void noSuchHouse() {
        String seven = "11;11;11;11;11;11;11";
        check.due("house 7 of eight", Check.town("a007", seven + ";11", "").where(0, 0), 7);
        check.due("house 7 of seven", Check.town("a007", seven, "").where(0, 0), NONE);
        check.due("house 6 of seven", Check.town("a006", seven, "").where(0, 0), 6);
        check.due("house 0 of none", Check.town("a000", "", "").where(29, 0), NONE);
        check.due("house 1 of one", Check.town("a001", "19", "").where(29, 0), NONE);
        TideMen x = Check.town("a007;a001", seven + ";11", "29900");
        check.due("both sail", x.count(6), 2);
        x.wipe(1);
        Check.type(x, 1, "19");
        check.due("house 7, that was there once", x.where(0, 0), NONE);
        check.due("house 1, that was there once", x.where(0, 1), NONE);
        check.due("nobody sails", x.count(6), 0);
    }

    // "others are NOWHERE": these pay nothing, and no ship takes them, dead ones neither
    private static void nowhereNothingHappens() {
        TideMen x = Check.town("d057;a557", "51", "05990");
        for (int day : new int[] {0, 5, 29}) {
            check.due("owes(" + day + ", 0)", x.owes(day, 0), 1);
            check.due("owes(" + day + ", 1)", x.owes(day, 1), 0);
            check.due("purse(" + day + ", 1)", x.purse(day, 1), 50);
            check.due("takes(" + day + ", 0, 0)", x.takes(day, 0, 0), 0);
            check.due("takes(" + day + ", 0, 1)", x.takes(day, 0, 1), 0);
        }
        check.due("crew(0, 0)", x.crew(0, 0), 0);
    }

    // "it takes as many as it NEEDS"
    private static void asManyAsItNeeds() {
        for (int needs = 1; needs < 10; needs++) {
            TideMen x = Check.town(ANY8, "19", "01" + needs + "00");
            int many = Math.min(8, needs);
            check.due("crew(0, 0) of " + needs, x.crew(0, 0), (1 << many) - 1);
            check.due("crew(0, 4) of " + needs, x.crew(0, 4), needs - many);
            check.due("count(6) of " + needs, x.count(6), many);
        }
    }

    // "of those that lodge and OWE some": by his last coin he owes nothing, a day later one
    private static void thoseThatOweSome() {
        check.due("owing nothing", Check.town("a010", "11", "10100").crew(0, 0), 0);
        check.due("owing one coin", Check.town("a010", "11", "11100").crew(0, 0), 1);
        check.due("owing nothing any day", Check.town("s900", "01", "29900").crew(0, 0), 0);
    }

    // "those who OWE most first": by one coin
    private static void thoseWhoOweMostFirst() {
        TideMen x = Check.town("a100;a200;a000", "03", "01100;01100;01100");
        check.due("who owes 2", x.crew(0, 0), 0b010);
        check.due("who owes 1", x.crew(1, 0), 0b001);
        check.due("who owes nothing", x.crew(2, 0), 0);
    }

    // "of like ones the least"
    private static void ofLikeOnesTheLeast() {
        TideMen x = Check.town("a000;a100;t100;s100;a100", "05", "01200;01200");
        check.due("two of three like ones", x.crew(0, 0), 0b00110);
        check.due("the third", x.crew(1, 0), 0b10000);
    }

    // "first SHIPS whose TIDE it is, by numbers"
    private static void shipsOfOneDayByNumbers() {
        TideMen x = Check.town("a000;a100", "12", "05110;04110;05120");
        check.due("ship 1, a day ahead", x.crew(1, 0), 0b10);
        check.due("ship 0", x.crew(0, 0), 0b01);
        check.due("ship 2", x.crew(2, 0), 0);
        check.due("takes(4, 0, 0)", x.takes(4, 0, 0), 10);
        check.due("takes(5, 0, 0)", x.takes(5, 0, 0), 20);
    }

    // "It LOOKS at the first of these, as they were taken: a tailor, or one dead, .. is put ASHORE"
    private static void looksAtTheFirst() {
        // as taken: tailor 3, any 1, dead 0 and 2 (of like ones the least)
        int[] ashore = {0, 0b1000, 0b1000, 0b1001, 0b1101, 0b1101};
        for (int looks = 0; looks < 6; looks++) {
            int many = looks == 5 ? 9 : looks;
            TideMen x = Check.town("d000;a200;d000;t400", "09", "0190" + many);
            check.due("taken, by looks " + many, x.crew(0, 0), 0b1111);
            check.due("ashore, by looks " + many, x.crew(0, 1), ashore[looks]);
            check.due("sailed, by looks " + many, x.crew(0, 2), 0b1111 ^ ashore[looks]);
        }
        TideMen y = Check.town("a200;t100", "09", "01109");
        check.due("it looks at none but those that it took", y.crew(0, 1), 0);
    }

    // "a tailor, or one dead": a sober man, or any, is not put ashore
    private static void looksAtSoundOnes() {
        TideMen x = Check.town("a000;s000;t000;d000", "19", "05909");
        check.due("crew(0, 1)", x.crew(0, 1), 0b1100);
        check.due("crew(0, 2)", x.crew(0, 2), 0b0011);
        check.due("crew(0, 3)", x.crew(0, 3), 2);
    }

    // "put ASHORE: he stays where he was": in his HOUSE, in his debt, for the next ship
    private static void ashoreHeStays() {
        TideMen x = Check.town("t100;d000", "12", "05999;05191;06190");
        check.due("where(5, 0)", x.where(5, 0), 0);
        check.due("owes(5, 0)", x.owes(5, 0), 12);
        check.due("owes(5, 1)", x.owes(5, 1), 1);
        check.due("takes(5, 0, 0)", x.takes(5, 0, 0), 0);
        check.due("the next ship of the day puts him ashore, too", x.crew(1, 1), 0b01);
        check.due("the next day he sails", x.where(6, 0), 10);
        check.due("takes(6, 0, 0)", x.takes(6, 0, 0), 90);
    }

    // "their HOUSES TAKE the ADVANCE for each, and they OWE nothing more": of 0 and of 9
    private static void housesTakeTheAdvance() {
        TideMen x = Check.town("a000;a001;a001", "19;19", "05990");
        check.due("takes(5, 0, 0)", x.takes(5, 0, 0), 90);
        check.due("takes(5, 1, 0)", x.takes(5, 1, 0), 180);
        TideMen y = Check.town("a000;a001;a001", "19;19", "05900");
        check.due("takes(5, 1, 0) of no advance", y.takes(5, 1, 0), 0);
        for (int man = 0; man < 3; man++) {
            check.due("owes(4, " + man + ")", x.owes(4, man), 5);
            check.due("owes(5, " + man + ")", x.owes(5, man), 0);
            check.due("owes(5, " + man + ") of no advance", y.owes(5, man), 0);
        }
    }

    // "Then each that lodges, and has not SAILED"
    private static void whoSailedPaysNoMore() {
        // his purse is empty, so that he owes by day 2; later nothing comes
        TideMen x = Check.town("a910", "11", "02130");
        check.due("takes(1, 0, 0)", x.takes(1, 0, 0), 10);
        check.due("owes(1, 0)", x.owes(1, 0), 10);
        check.due("takes(29, 0, 0)", x.takes(29, 0, 0), 40);
        check.due("owes(29, 0)", x.owes(29, 0), 0);
        check.due("takes(29, 0, 1)", x.takes(29, 0, 1), 0);
    }

    // "from his PURSE, that the HOUSE TAKES": it holds just enough
    private static void purseThatJustHolds() {
        TideMen x = Check.town("a510", "01", "");
        check.due("purse(0, 0)", x.purse(0, 0), 5);
        check.due("purse(1, 0)", x.purse(1, 0), 0);
        check.due("owes(1, 0)", x.owes(1, 0), 0);
        check.due("owes(2, 0)", x.owes(2, 0), 5);
        check.due("takes(1, 0, 0)", x.takes(1, 0, 0), 10);
        check.due("takes(2, 0, 0)", x.takes(2, 0, 0), 10);
    }

    // "what it does not hold he OWES, too": it holds some, but not enough
    private static void purseThatHoldsTooLittle() {
        TideMen x = Check.town("a310", "01", "");
        check.due("purse(2, 0)", x.purse(2, 0), 1);
        check.due("owes(2, 0)", x.owes(2, 0), 0);
        check.due("purse(3, 0)", x.purse(3, 0), 0);
        check.due("owes(3, 0)", x.owes(3, 0), 2);
        check.due("takes(3, 0, 0)", x.takes(3, 0, 0), 10);
        check.due("takes(3, 0, 1)", x.takes(3, 0, 1), 2);
    }

    // PURSE "0 to 9"
    private static void emptyAndFullPurse() {
        TideMen x = Check.town("a900;a990", "02", "");
        check.due("owes(0, 0)", x.owes(0, 0), 9);
        check.due("owes(9, 1)", x.owes(9, 1), 0);
        check.due("purse(9, 1)", x.purse(9, 1), 0);
        check.due("owes(10, 1)", x.owes(10, 1), 9);
        check.due("takes(29, 0, 0)", x.takes(29, 0, 0), 90);
    }

    // "any, or a tailor, pays the PRICE and one coin for each of its THIRST; a sober one twice the PRICE; a dead one
    // nothing": of PRICE and THIRST 0 and 9
    private static void whatEachKindPays() {
        String[] men = {"a000;s000;t000;d000", "a900;s900;t900;d900"};
        int[][] due = {{0, 0, 0, 1}, {9, 0, 9, 1}, {9, 18, 9, 1}, {18, 18, 18, 1}};
        for (int row = 0; row < 4; row++) {
            TideMen x = Check.town(men[row % 2], row < 2 ? "04" : "94", "");
            for (int man = 0; man < 4; man++) {
                check.due("row " + row + ": owes(0, " + man + ")", x.owes(0, man), due[row][man]);
            }
        }
    }

    // the dearest bed, the greatest thirst and the fullest purse by the last day
    private static void dearestMonth() {
        TideMen x = Check.town(ANY8.replace("a000", "a990"), "99", "");
        check.due("owes(4, 7)", x.owes(4, 7), 0);
        check.due("owes(5, 7)", x.owes(5, 7), 18);
        check.due("owes(29, 7)", x.owes(29, 7), 450);
        check.due("takes(29, 0, 0)", x.takes(29, 0, 0), 720);
        check.due("takes(29, 0, 1)", x.takes(29, 0, 1), 3600);
        TideMen y = Check.town(ANY8.replace("a000", "a990"), "99", "29990");
        check.due("and the greatest advance", y.takes(29, 0, 0), 1440);
    }

    // "0 to 7 a HOUSE, 8 and more: SAILED by one of SHIPS, 8 and its number; NONE: NOWHERE"
    private static void whereFrom0To13() {
        TideMen x = Check.town("a500;a400;a300;a200;a100;a000;a090;a007", "19", "01100;01100;01100;01100;01100;01100");
        for (int man = 0; man < 6; man++) {
            check.due("where(0, " + man + ")", x.where(0, man), 0);
            check.due("where(1, " + man + ")", x.where(1, man), 8 + man);
            check.due("where(29, " + man + ")", x.where(29, man), 8 + man);
        }
        check.due("where(29, 6)", x.where(29, 6), 0);
        check.due("where(29, 7)", x.where(29, 7), NONE);
        check.due("last()", x.last(), 5);
        TideMen y = Check.town("a000;a001;a002;a003;a004;a005;a006;a007", "11;11;11;11;11;11;11;11", "");
        for (int man = 0; man < 8; man++) {
            check.due("where(29, " + man + ") of eight houses", y.where(29, man), man);
        }
    }

    // "what a HOUSE TAKES in all so far; what is OWED to it by those that lodge there"
    private static void whatHousesTake() {
        TideMen x = Check.town("a000;a001;a100;d000", "13;11", "05110");
        check.due("takes(4, 0, 1): 5, 10, 1", x.takes(4, 0, 1), 16);
        check.due("takes(4, 1, 1)", x.takes(4, 1, 1), 5);
        check.due("takes(5, 0, 1): who owed 10 sailed", x.takes(5, 0, 1), 7);
        check.due("takes(5, 0, 0)", x.takes(5, 0, 0), 10);
        check.due("takes(5, 1, 0)", x.takes(5, 1, 0), 0);
    }

    // crew(): "taken (what = 0), put ASHORE (1), SAILED (2), .. SOUND (3), .. SHORT of (4). BAD."
    private static void whatIsToldOfCrews() {
        TideMen x = Check.town("a000", "11", "05100;06100;07100;08100;09100;10100");
        check.due("crew(0, 2)", x.crew(0, 2), 1);
        check.due("crew(5, 2)", x.crew(5, 2), 0);
        check.due("crew(5, 4)", x.crew(5, 4), 1);
        for (int ship : new int[] {-1, 6, LEAST, MOST}) {
            for (int what = 0; what < 5; what++) {
                check.due("crew(" + ship + ", " + what + ")", x.crew(ship, what), BAD);
            }
        }
        for (int what : new int[] {-1, 5, LEAST, MOST}) {
            check.due("crew(0, " + what + ")", x.crew(0, what), BAD);
        }
        check.due("crew(0, 0) of no ships", Check.town("a000", "11", "").crew(0, 0), BAD);
    }

    private static void crewIs(String name, TideMen x, int... due) {
        for (int what = 0; what < 5; what++) {
            check.due(name + ": crew(0, " + what + ")", x.crew(0, what), due[what]);
        }
    }

    // "as bits": of all eight and of none
    private static void crewsFullAndEmpty() {
        crewIs("all eight sail", Check.town(ANY8, "19", "01909"), 255, 0, 255, 8, 1);
        crewIs("all eight sail, none sound", Check.town(DEAD8, "19", "01900"), 255, 0, 255, 0, 1);
        crewIs("all eight ashore", Check.town(DEAD8, "19", "01909"), 255, 255, 0, 0, 9);
        crewIs("the eighth not looked at", Check.town(DEAD8, "19", "01907"), 255, 127, 128, 0, 8);
        crewIs("none taken", Check.town(ANY8, "19", "00909"), 0, 0, 0, 0, 9);
        crewIs("no sailors", Check.town("", "19", "29909"), 0, 0, 0, 0, 9);
        crewIs("no houses", Check.town(DEAD8, "", "29909"), 0, 0, 0, 0, 9);
    }

    // the same, when the texts change: bits of an earlier month are gone
    private static void crewsAnew() {
        TideMen x = Check.town(DEAD8, "19", "01904");
        crewIs("four ashore, four sail", x, 255, 15, 240, 0, 5);
        x.undo(2);
        x.type(2, '0');
        crewIs("none ashore any more", x, 255, 0, 255, 0, 1);
        x.undo(2);
        x.type(2, '9');
        crewIs("none sails any more", x, 255, 255, 0, 0, 9);
        x.wipe(0);
        crewIs("none is taken any more", x, 0, 0, 0, 0, 9);
    }

    // "how many it is SHORT of what it NEEDS (of those that SAILED)"
    private static void shortOfThoseThatSailed() {
        crewIs("not short", Check.town(ANY8, "19", "01800"), 255, 0, 255, 8, 0);
        crewIs("short by those ashore", Check.town("t100;a000;d000", "19", "01303"), 0b111, 0b101, 0b010, 1, 2);
        crewIs("short by those that are not there", Check.town("a000", "19", "01300"), 1, 0, 1, 1, 2);
    }

    // RICHEST: "the HOUSE that TAKES most, of like ones the least"
    private static void richestOfLikeOnes() {
        String eight = "11;11;11;11;11;11;11;11";
        check.due("all alike", Check.town("a010;a011", "11;11", "").richest(29), 0);
        check.due("the last two alike", Check.town("a016;a017", eight, "").richest(29), 6);
        check.due("the last alone", Check.town("a017", eight, "").richest(0), 7);
        check.due("none takes", Check.town("a000", eight, "").richest(29), 0);
    }

    // RICHEST: "NONE"
    private static void richestOfNone() {
        check.due("no houses", Check.town("a090", "", "").richest(29), NONE);
        check.due("houses with a fault", Check.town("a090", "11;", "").richest(29), NONE);
        check.due("no houses, no day", Check.town("a090", "", "").richest(30), BAD);
    }

    // LAST: "of one SHIP the greatest number"
    private static void lastOfOneShip() {
        check.due("all eight", Check.town(ANY8, "19", "01900").last(), 7);
        check.due("sailor 0", Check.town("a100;a000", "19", "01100").last(), 0);
        check.due("not who was taken last", Check.town("a000;a100;a200", "19", "01300").last(), 2);
        check.due("not who was put ashore", Check.town("a000;a100;t200", "19", "01301").last(), 1);
    }

    // LAST: "by SHIPS as they came": by days, of one day by numbers; those by which none sailed do not count
    private static void lastByShips() {
        check.due("two of one day", Check.town("a000;a100;a200", "19", "05100;05100").last(), 1);
        check.due("the later day ahead", Check.town("a000;a100;a200", "19", "06100;05100").last(), 1);
        check.due("an empty one behind", Check.town("a000;a007", "19", "28100;29100").last(), 0);
    }

    // LAST: "NONE"
    private static void lastOfNone() {
        check.due("nobody sails", Check.town("a000", "11", "").last(), NONE);
        check.due("taken, but put ashore", Check.town("t000", "11", "05101").last(), NONE);
        TideMen x = Check.town("a000", "11", "05100");
        check.due("somebody sails", x.last(), 0);
        x.undo(2);
        check.due("nobody any more", x.last(), NONE);
    }
}
