/** Promises 21 to 28, at their edges: above each test stands the sentence of the document that it looks at. */
public final class SeenEdgesTest {
    private static final Check check = new Check("SeenEdgesTest");
    private static final int BAD = -2, NONE = -1, FULL = -4, NULL = -11;
    private static final int LEAST = Integer.MIN_VALUE, MOST = Integer.MAX_VALUE;
    private static final long BAD_LONG = Long.MIN_VALUE + 2;
    private static final String EIGHT = "11;11;11;11;11;11;11;11", SIX = "05100;06100;07100;08100;09100;10100";

    public static void main(String[] args) {
        eightSeen();
        daysSeen();
        housesSeen();
        muchSeen();
        forgetting();
        readingWholeThrees();
        readingBehindThoseThatThereAre();
        readingUpToTheFirstRefused();
        readingMoreThanEight();
        readingEachForm();
        readingNoSheet();
        neverWithNothingSeen();
        neverOfNoHouse();
        neverAloneNotCome();
        neverOfTheFirstAndTheLastDay();
        wasWithNothingSeen();
        wasOfEachKind();
        drankFrom0To9();
        wasOfNoHouse();
        wasOfEachSailor();
        askWithoutHouses();
        askOfLikeOnes();
        askTellsApart();
        askOfThoseShips();
        askOfEachDay();
        stormFrom0To16();
        stormByThatDayToo();
        stormInLowestTerms();
        stormOfSixShips();
        stormOfNoShips();
        stormRefused();
        portWraps();
        portFrom0On();
        portOfOneAndOfEight();
        portWithoutHouses();
        portOfEachHouse();
        portLodgesByNumbers();
        check.end();
    }

    // "SEEN, 8 at most"; "SEEN more: how many. BAD; FULL."
    private static void eightSeen() {
        TideMen x = new TideMen();
        for (int n = 1; n <= 8; n++) {
            check.due("seen the " + n, x.seen(0, 0, 0), n);
        }
        check.due("seen the ninth", x.seen(0, 0, 0), FULL);
        check.due("seen the ninth, a bad one", x.seen(0, 0, 1000), BAD);
        check.due("count(7)", x.count(7), 8);
        check.due("forget()", x.forget(), 8);
        check.due("seen the first again", x.seen(0, 0, 0), 1);
    }

    // "behind a DAY": 0 to 29
    private static void daysSeen() {
        TideMen x = new TideMen();
        for (int day : new int[] {-1, 30, LEAST, MOST}) check.due("seen(" + day + ", 0, 0)", x.seen(day, 0, 0), BAD);
        check.due("seen(0, 0, 0)", x.seen(0, 0, 0), 1);
        check.due("seen(29, 0, 0)", x.seen(29, 0, 0), 2);
    }

    // "a HOUSE (0 to 7)": of those that there are not, too
    private static void housesSeen() {
        TideMen x = new TideMen();
        for (int inn : new int[] {-1, 8, LEAST, MOST}) check.due("seen(0, " + inn + ", 0)", x.seen(0, inn, 0), BAD);
        check.due("seen(0, 0, 0)", x.seen(0, 0, 0), 1);
        check.due("seen(0, 7, 0)", x.seen(0, 7, 0), 2);
    }

    // "so much (0 to 999 ..)"
    private static void muchSeen() {
        TideMen x = new TideMen();
        for (int m : new int[] {-1, 1000, LEAST, MOST}) check.due("seen(0, 0, " + m + ")", x.seen(0, 0, m), BAD);
        check.due("seen(0, 0, 0)", x.seen(0, 0, 0), 1);
        check.due("seen(0, 0, 999)", x.seen(0, 0, 999), 2);
    }

    // forget(): "All SEEN are forgotten: how many."
    private static void forgetting() {
        TideMen x = Check.town("a000", "11", "05110");
        check.due("forget() of none", x.forget(), 0);
        x.seen(0, 7, 5);
        check.due("never() ahead", x.never(), 0);
        check.due("forget() of one", x.forget(), 1);
        check.due("never() behind", x.never(), 1);
        check.due("forget() again", x.forget(), 0);
    }

    // read(): "its items, three for each, as many as are whole"
    private static void readingWholeThrees() {
        for (int n = 0; n < 13; n++) {
            TideMen x = new TideMen();
            x.sheet(0, 2, n);
            check.due("read(0) of " + n + " items", x.read(0), n / 3);
            check.due("count(7)", x.count(7), n / 3);
            check.due("count(8)", x.count(8), 0);
        }
    }

    // read(): "SEEN more, behind those that there are"; "how many it took"
    private static void readingBehindThoseThatThereAre() {
        for (int many = 0; many < 9; many++) {
            TideMen x = new TideMen();
            for (int n = 0; n < many; n++) x.seen(0, 0, 0);
            x.sheet(0, 2, 9);
            check.due("read(0) behind " + many, x.read(0), Math.min(3, 8 - many));
            check.due("count(7)", x.count(7), Math.min(8, many + 3));
        }
        TideMen y = Check.town("a000", "11", "05110");
        y.seen(29, 0, 10);
        Check.fill(y, 0, 2, 5, 0, 0);
        check.due("read(0)", y.read(0), 1);
        check.due("none comes out so", y.never(), 0);
        Check.fill(y, 0, 2, 29, 0, 0);
        y.forget();
        check.due("read(0) of another", y.read(0), 1);
        check.due("the ship never came", y.never(), 1);
    }

    // read(): "one by one as seen() takes them, up to the first that it refuses"
    private static void readingUpToTheFirstRefused() {
        int[][] bad = {{-1, 0, 0}, {30, 0, 0}, {0, -1, 0}, {0, 8, 0}, {0, 0, -1}, {0, 0, 1000}, {LEAST, MOST, LEAST}};
        for (int[] b : bad) {
            TideMen x = new TideMen();
            Check.fill(x, 0, 2, b[0], b[1], b[2], 0, 0, 0);
            check.due("the first refused", x.read(0), 0);
            check.due("count(7)", x.count(7), 0);
            Check.fill(x, 0, 2, 29, 7, 999, 0, 0, 0, b[0], b[1], b[2], 0, 0, 0);
            check.due("the third refused", x.read(0), 2);
            check.due("count(7)", x.count(7), 2);
            check.due("no finding", x.count(8), 0);
        }
    }

    // the same: FULL, from a row of 60 items
    private static void readingMoreThanEight() {
        for (int n : new int[] {23, 24, 26, 27, 59, 60}) {
            TideMen x = new TideMen();
            x.sheet(3, 1, n);
            check.due("read(3) of " + n, x.read(3), Math.min(8, n / 3));
            check.due("read(3) again", x.read(3), n < 24 ? 1 : 0);
            check.due("count(7)", x.count(7), 8);
        }
    }

    // read(): "from a SHEET", of whichever FORM, its items as they are held there
    private static void readingEachForm() {
        for (int form = 0; form < 3; form++) {
            TideMen x = new TideMen();
            Check.fill(x, 2, form, 29, 7, 127, 0, 0, 999);
            check.due("read(2) of form " + form, x.read(2), form == 0 ? 1 : 2);
        }
        TideMen y = new TideMen();
        Check.fill(y, 2, 0, 256, 0, 0);
        check.due("256 is 0 as a byte", y.read(2), 1);
        Check.fill(y, 2, 1, 65535, 0, 0);
        check.due("65535 is -1 as a short", y.read(2), 0);
    }

    // read(): "BAD; NULL."
    private static void readingNoSheet() {
        TideMen x = new TideMen();
        for (int s : new int[] {-1, 4, LEAST, MOST}) check.due("read(" + s + ")", x.read(s), BAD);
        check.due("count(8)", x.count(8), 0);
        for (int s = 0; s < 4; s++) check.due("read(" + s + ")", x.read(s), NULL);
        check.due("count(8)", x.count(8), 1);
        x.sheet(3, 2, 3);
        x.lose(3);
        check.due("read(3) of one that was lost", x.read(3), NULL);
        check.due("count(7)", x.count(7), 0);
    }

    // NEVER "as bits": with nothing SEEN all SHIPS, of none none
    private static void neverWithNothingSeen() {
        check.due("six ships", Check.town("a000", "11", SIX).never(), 63);
        check.due("one ship", Check.town("a000", "11", "05100").never(), 1);
        check.due("no ship", Check.town("a000", "11", "").never(), 0);
        check.due("a new object", new TideMen().never(), 0);
    }

    // SEEN: "of one that there is not nothing ever comes out so"
    private static void neverOfNoHouse() {
        TideMen x = Check.town("a000", EIGHT.substring(0, 20), SIX);
        x.seen(0, 6, 0);
        check.due("house 6 of seven", x.never(), 63);
        x.seen(0, 7, 0);
        check.due("house 7 of seven", x.never(), 0);
        Check.type(x, 1, ";11");
        check.due("house 7 of eight", x.never(), 63);
        x.wipe(1);
        check.due("houses of none", x.never(), 0);
    }

    // NEVER: "SHIPS each of which, had it alone not come, makes all that was SEEN come out so"
    private static void neverAloneNotCome() {
        TideMen x = Check.town("a000", "11", "05110;06120;07130;08140;09150;10160");
        x.seen(29, 0, 20);
        check.due("had ship 0 not come, he sails by ship 1", x.never(), 0b000001);
        x.forget();
        x.seen(29, 0, 10);
        check.due("had any other not come, he sails by ship 0", x.never(), 0b111110);
        x.seen(4, 0, 0);
        check.due("all that was seen", x.never(), 0b111110);
        x.seen(29, 0, 20);
        check.due("both cannot come out so", x.never(), 0);
        x.forget();
        x.seen(29, 0, 30);
        check.due("two that did not come are not alone", x.never(), 0);
    }

    // the same, of DAY 0 and DAY 29
    private static void neverOfTheFirstAndTheLastDay() {
        TideMen x = Check.town("d000;a000", "12", "00110;29120");
        x.seen(0, 0, 0);
        check.due("never(): ship 0", x.never(), 0b01);
        x.forget();
        x.seen(0, 0, 10);
        x.seen(28, 0, 10);
        x.seen(29, 0, 10);
        check.due("never(): ship 1", x.never(), 0b10);
    }

    // WAS, DRANK "as bits": with nothing SEEN all of them
    private static void wasWithNothingSeen() {
        TideMen x = Check.town("a000", "", "");
        check.due("was(0, 0)", x.was(0, 0), 0b1111);
        check.due("was(0, 1)", x.was(0, 1), 0b1111111111);
    }

    // WAS: "his kind (0 a, 1 s, 2 t, 3 d), in place of his own, likewise, as bits"
    private static void wasOfEachKind() {
        int[] much = {6, 2, 0}, due = {0b0101, 0b0010, 0b1000};
        for (int i = 0; i < 3; i++) {
            TideMen x = Check.town("s590", "11", "");
            x.seen(0, 0, much[i]);
            check.due("was(0, 0), seen " + much[i], x.was(0, 0), due[i]);
        }
        TideMen y = Check.town("t000", "01", "00191;29191");
        y.seen(0, 0, 0);
        check.due("was(0, 0): the dead one is put ashore", y.was(0, 0), 0b1111);
        y.wipe(2);
        Check.type(y, 2, "00190");
        check.due("was(0, 0): the dead one owes at first, and sails", y.was(0, 0), 0b0111);
    }

    // DRANK: "THIRST (0 to 9), in place of his own, likewise, as bits"
    private static void drankFrom0To9() {
        for (int thirst = 0; thirst < 10; thirst++) {
            TideMen x = Check.town("a590", "01", "");
            x.seen(0, 0, thirst);
            check.due("was(0, 1), seen " + thirst, x.was(0, 1), 1 << thirst);
        }
        TideMen y = Check.town("a590", "01", "");
        y.seen(0, 0, 10);
        check.due("was(0, 1), seen 10", y.was(0, 1), 0);
        TideMen z = Check.town("s090", "11", "");
        z.seen(0, 0, 2);
        check.due("a sober one's thirst does not matter", z.was(0, 1), 1023);
    }

    // "likewise": of a HOUSE that there is not nothing comes out so
    private static void wasOfNoHouse() {
        TideMen x = Check.town("a000", "11", "");
        x.seen(0, 1, 0);
        check.due("was(0, 0)", x.was(0, 0), 0);
        check.due("was(0, 1)", x.was(0, 1), 0);
    }

    // was(): "WAS (what = 0), DRANK (1), as bits. BAD."
    private static void wasOfEachSailor() {
        TideMen x = Check.town("a000;a000;a000;a000;a000;a000;a000;a390", "09", "");
        x.seen(0, 0, 4);
        check.due("was(7, 0)", x.was(7, 0), 0);
        check.due("was(7, 1)", x.was(7, 1), 1 << 4);
        check.due("was(0, 0)", x.was(0, 0), 0);
        for (int sailor : new int[] {-1, 8, LEAST, MOST}) {
            check.due("was(" + sailor + ", 0)", x.was(sailor, 0), BAD);
            check.due("was(" + sailor + ", 1)", x.was(sailor, 1), BAD);
        }
        for (int what : new int[] {-1, 2, LEAST, MOST}) {
            check.due("was(0, " + what + ")", x.was(0, what), BAD);
        }
        check.due("his own stay", 10 * x.sailor(7, 0) + x.sailor(7, 1), 3);
    }

    // ASK: "NONE: there are no HOUSES"
    private static void askWithoutHouses() {
        check.due("no houses", Check.town("a000", "", SIX).ask(29), NONE);
        check.due("houses with a fault", Check.town("a000", "11;", SIX).ask(29), NONE);
        check.due("no houses, no day", Check.town("a000", "", SIX).ask(30), BAD);
    }

    // ASK: "of like ones the least"
    private static void askOfLikeOnes() {
        check.due("all alike", Check.town("a000", EIGHT, SIX).ask(29), 0);
        check.due("no ships", Check.town("a000", EIGHT, "").ask(29), 0);
        check.due("6 and 7 alike", Check.town("a006;a007", EIGHT, "05210;06220").ask(29), 6);
    }

    // ASK: "the HOUSE of which the greatest number of those SHIPS by which it TAKES alike .. is least"
    private static void askTellsApart() {
        check.due("house 7", Check.town("a007", EIGHT, "05110;06120").ask(29), 7);
        check.due("house 0, though the others differ", Check.town("a000", EIGHT, "05110;06120").ask(29), 0);
        check.due("house 3, though those behind it differ", Check.town("a003", EIGHT, "05110;06120").ask(29), 3);
        TideMen x = Check.town("a001", "11;11", "05110;06120;07120;08120;09120;10120");
        check.due("five alike are fewer than six", x.ask(29), 1);
        TideMen y = Check.town("a901;a802;a702;a602;a502;a402", "11;11;15", "05210;05220;05240");
        // without ship 0, 1, 2: house 0 takes nothing, house 1 takes 20, 10, 10, house 2 takes 100, 90, 50
        check.due("one alike is fewer than two and three", y.ask(29), 2);
        TideMen z = Check.town("a900;a501;a401", "11;12", "05110;05120;05130");
        // without ship 0, 1, 2: house 0 takes 20, 10, 10, house 1 takes 30, 30, 20
        check.due("two alike of both", z.ask(29), 0);
    }

    // ASK: "of those SHIPS": those of NEVER
    private static void askOfThoseShips() {
        TideMen x = Check.town("a501;a000", "11;11", "05110;06120");
        check.due("both ships", x.ask(29), 1);
        x.seen(29, 1, 20);
        check.due("one ship is left", x.ask(29), 0);
        x.seen(29, 1, 10);
        check.due("none is left", x.ask(29), 0);
        x.forget();
        check.due("both again", x.ask(29), 1);
    }

    // ask(): of each DAY; "BAD"
    private static void askOfEachDay() {
        TideMen x = Check.town("a000;d001", "11;11", "00110;29120");
        check.due("ask(0)", x.ask(0), 1);
        TideMen y = Check.town("a000;a001", "11;21", "28110;29120");
        check.due("ask(27)", y.ask(27), 0);
        check.due("ask(28)", y.ask(28), 1);
        check.due("ask(29)", y.ask(29), 1);
        for (int day : new int[] {-1, 30, LEAST, MOST}) check.due("ask(" + day + ")", y.ask(day), BAD);
    }

    private static void stormIs(String name, TideMen x, int c, int sailor, int day, long above, long below) {
        check.due(name + ": above, by " + c + ", day " + day, x.storm(c, sailor, day, 0), above);
        check.due(name + ": below, by " + c + ", day " + day, x.storm(c, sailor, day, 1), below);
    }

    // STORM: "c sixteenths (0 to 16)"; "(0 by 1)"
    private static void stormFrom0To16() {
        TideMen x = Check.town("a000", "11", "05100");
        stormIs("never", x, 0, 0, 29, 0, 1);
        stormIs("once in 16", x, 1, 0, 29, 1, 16);
        stormIs("15 times in 16", x, 15, 0, 29, 15, 16);
        stormIs("always", x, 16, 0, 29, 1, 1);
        for (int c : new int[] {-1, 17, LEAST, MOST}) stormIs("refused", x, c, 0, 29, BAD_LONG, BAD_LONG);
    }

    // STORM: "that a SAILOR has SAILED by a DAY (that one, too)"; DAYS 0 and 29
    private static void stormByThatDayToo() {
        TideMen x = Check.town("a000", "11", "05100;29100");
        stormIs("a day ahead", x, 8, 0, 4, 0, 1);
        stormIs("that day", x, 8, 0, 5, 1, 2);
        stormIs("a day ahead of the second", x, 8, 0, 28, 1, 2);
        stormIs("the last day", x, 8, 0, 29, 3, 4);
        stormIs("the first day", Check.town("d000", "11", "00100"), 3, 0, 0, 3, 16);
    }

    // "FRACTIONS are told in lowest terms, above and below"
    private static void stormInLowestTerms() {
        TideMen x = Check.town("a000", "11", "05100");
        int[][] due = {{2, 1, 8}, {3, 3, 16}, {4, 1, 4}, {6, 3, 8}, {8, 1, 2}, {10, 5, 8}, {12, 3, 4}, {14, 7, 8}};
        for (int[] d : due) stormIs("of 16", x, d[0], 0, 29, d[1], d[2]);
        Check.type(x, 2, ";00100;00100");
        for (int[] d : due) stormIs("of 4096", x, d[0], 0, 29, d[1], d[2]);
    }

    // STORM: "each SHIP comes .. by itself": all six
    private static void stormOfSixShips() {
        TideMen x = Check.town("a000", "11", SIX);
        stormIs("six", x, 1, 0, 29, 16777216 - 11390625, 16777216);
        stormIs("six", x, 15, 0, 29, 16777215, 16777216);
        stormIs("six", x, 8, 0, 29, 63, 64);
        stormIs("six", x, 16, 0, 29, 1, 1);
        stormIs("six", x, 0, 0, 29, 0, 1);
        stormIs("five", x, 15, 0, 9, 1048575, 1048576);
        TideMen y = Check.town("a500;a400;a300;a200;a100;a000", "16", SIX);
        stormIs("all six have to come", y, 15, 5, 29, 11390625, 16777216);
        stormIs("all six have to come", y, 1, 5, 29, 1, 16777216);
        stormIs("all six have to come", y, 16, 5, 29, 1, 1);
        stormIs("all six have to come, by the day ahead", y, 16, 5, 9, 0, 1);
    }

    // the same: none comes
    private static void stormOfNoShips() {
        stormIs("no ships", Check.town("a000", "11", ""), 16, 0, 29, 0, 1);
        stormIs("ships with a fault", Check.town("a000", "11", "05100;"), 16, 0, 29, 0, 1);
        stormIs("nowhere", Check.town("a000", "", "05100"), 16, 0, 29, 0, 1);
    }

    // storm(): "BAD"; "Where the answer is a long, a refusal -x is the least long and x more."
    private static void stormRefused() {
        TideMen x = Check.town("a000", "11", "05100");
        for (int man : new int[] {-1, 1, 8, LEAST, MOST}) stormIs("sailor " + man, x, 8, man, 29, BAD_LONG, BAD_LONG);
        for (int day : new int[] {-1, 30, LEAST, MOST}) stormIs("refused", x, 8, 0, day, BAD_LONG, BAD_LONG);
        for (int what : new int[] {-1, 2, LEAST, MOST}) {
            check.due("storm(8, 0, 29, " + what + ")", x.storm(8, 0, 29, what), BAD_LONG);
        }
        check.due("the least long and 2 more", x.storm(17, 0, 29, 0), -9223372036854775806L);
    }

    // four purses of 10, 20, 40 and 80, each empty by day 29, so that what a house takes tells who lodged there
    private static TideMen purses(int houses) {
        return Check.town("a010;a020;a040;a080", "99;99;99;99;99;99;99;99".substring(0, 3 * houses - 1), "29900");
    }

    private static void portIs(int seed, int... due) {
        TideMen x = purses(due.length);
        for (int inn = 0; inn < due.length; inn++) {
            check.due("port(" + seed + ", " + inn + ") of " + due.length, x.port(seed, inn), due[inn]);
        }
        check.due("port(" + seed + ", -1)", x.port(seed, -1), 4);
    }

    // LOTS: "SEED becomes 1103515245 SEED and 12345, as ints that wrap"
    private static void portWraps() {
        // upper 16 bits by the greatest int: 15929, 37177, 42630, 26718; by the least: 32768, 21468, 9988, 22117
        portIs(MOST, 40, 0, 20, 80, 10);
        portIs(LEAST, 0, 10, 0, 0, 80, 0, 60);
        // by 7: 52332, 9806, 10868, 22674
        portIs(7, 10, 80, 0, 0, 40, 0, 20);
    }

    // LOTS: "its upper 16 bits as a number from 0 on, modulo m"
    private static void portFrom0On() {
        // by 0: 0, 54236, 42756, 54885; by -1: 48697, 4409, 9862, 59486; by 1: 16838, 38526, 10113, 50283
        portIs(0, 130, 0, 20);
        portIs(-1, 80, 0, 0, 0, 0, 10, 60);
        portIs(1, 140, 0, 10);
    }

    // "a LOT of HOUSES": of one and of eight
    private static void portOfOneAndOfEight() {
        portIs(-1, 150);
        TideMen x = Check.town("a017;a023", "99", "");
        check.due("a lot of 1 is 0, whatever is told of them", x.port(-1, 0), 30);
        portIs(0, 10, 0, 0, 0, 60, 80, 0, 0);
        portIs(-1, 0, 30, 0, 0, 0, 0, 120, 0);
    }

    // "(no LOTS where there are none)"
    private static void portWithoutHouses() {
        TideMen x = Check.town("a000;d000", "", "29900");
        check.due("port(1, -1) of no houses", x.port(1, NONE), 0);
        check.due("port(1, 0) of no houses", x.port(1, 0), BAD);
        check.due("port(1, -1) of houses with a fault", Check.town("d000", "11;", "29900").port(1, NONE), 0);
        check.due("port(1, -1) of no sailors", Check.town("", "11", "29900").port(1, NONE), 0);
        check.due("port(1, 0) of no sailors", Check.town("", "11", "29900").port(1, 0), 0);
        check.due("port(1, -1) of no ships", Check.town("a000", "11", "").port(1, NONE), 0);
    }

    // port(): "what a HOUSE TAKES, how many SAIL (house = NONE). BAD."
    private static void portOfEachHouse() {
        for (int houses : new int[] {1, 3, 8}) {
            TideMen x = purses(houses);
            for (int inn : new int[] {-2, houses, LEAST, MOST}) {
                check.due("port(1, " + inn + ") of " + houses, x.port(1, inn), BAD);
            }
            check.due("port(1, -1) of " + houses, x.port(1, NONE), 4);
        }
        TideMen y = purses(3);
        String due = State.of(purses(3));
        y.port(1, 2);
        check.same("port: \"in place of his own\"", State.of(y), due);
    }

    // "as long as there are BEDS" there, too: lots of 2 by 3 are 1, 1, 1, 0
    private static void portLodgesByNumbers() {
        TideMen x = Check.town("a010;a020;a040;a080", "99;92", "29900");
        check.due("port(3, 0)", x.port(3, 0), 80);
        check.due("port(3, 1)", x.port(3, 1), 30);
        check.due("port(3, -1)", x.port(3, NONE), 3);
    }
}
