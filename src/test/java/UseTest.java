/** How long an object serves, and that asking it changes nothing. */
public final class UseTest {
    private static final Check check = new Check("UseTest");
    private static final int LAST = 512, MADE = 53;

    private interface Call {
        long of(TideMen x);
    }

    private static final Call[] ASKING = {
        x -> x.fault(0), x -> x.sailor(3, 0), x -> x.house(1, 0), x -> x.ship(2, 0), x -> x.owes(29, 3),
        x -> x.purse(29, 1), x -> x.where(29, 0), x -> x.takes(29, 0, 0), x -> x.takes(29, 0, 1), x -> x.crew(0, 0),
        x -> x.richest(29), x -> x.last(), x -> x.price(0, 0), x -> x.price(1, 1), x -> x.lodge(0, 0),
        x -> x.lodge(2, 1), x -> x.look(1), x -> x.leave(0, -1), x -> x.leave(4, 0), x -> x.never(),
        x -> x.was(0, 0), x -> x.was(2, 1),
        x -> x.ask(29), x -> x.storm(5, 0, 20, 0), x -> x.storm(16, 4, 29, 1), x -> x.port(7, 0), x -> x.port(-7, -1),
        x -> x.get(0, 2, 1), x -> x.count(6), x -> x.count(8), x -> x.digest()};

    private static final Call[] CHANGING = {
        x -> x.type(0, ';'), x -> x.wipe(1), x -> x.undo(2), x -> x.cap(0), x -> x.seen(5, 0, 10), x -> x.forget(),
        x -> x.read(0), x -> x.sheet(0, 0, 60), x -> x.lose(1), x -> x.put(0, 2, 1, 9), x -> x.copy(0, 0, 0, 1, 2),
        x -> x.write(9, 0)};

    public static void main(String[] args) {
        theLastCallIsAnswered();
        askingChangesNothing();
        askingTwiceAnswersAlike();
        changesAreSeenAtOnce();
        nothingIsLeftOfLongerTexts();
        check.end();
    }

    // by MADE calls
    private static TideMen make() {
        TideMen x = Check.town("a300;s911;t210;d590;a100", "13;22", "05251;12390;12121");
        x.cap(7);
        x.seen(9, 0, 20);
        Check.fill(x, 0, 2, 5, 0, 10);
        x.sheet(1, 1, 2);
        return x;
    }

    // "An object is used for at most 512 calls after it has been made": the last of them, too, is answered
    private static void theLastCallIsAnswered() {
        for (Call[] calls : new Call[][] {ASKING, CHANGING}) {
            for (int i = 0; i < calls.length; i++) {
                TideMen x = make();
                for (int n = MADE + 1; n < LAST; n++) {
                    if (n % 2 == 0) x.cap(7); else ASKING[n % ASKING.length].of(x);
                }
                check.due("call " + i + " as the last", calls[i].of(x), calls[i].of(make()));
            }
        }
        TideMen y = new TideMen();
        for (int n = 1; n < LAST; n++) {
            if (n % 2 == 1) y.type(0, 'a'); else y.undo(0);
        }
        check.due("the last call of many that change", y.type(0, 'a'), 2);
    }

    // what a plan puts "in place of" something stays in the plan
    private static void askingChangesNothing() {
        String due = State.of(make());
        for (int i = 0; i < ASKING.length; i++) {
            TideMen x = make();
            ASKING[i].of(x);
            check.due("count(8) behind question " + i, x.count(8), 0);
            check.same("question " + i, State.of(x), due);
        }
    }

    // whatever was asked between
    private static void askingTwiceAnswersAlike() {
        TideMen x = make();
        for (int i = 0; i < ASKING.length; i++) {
            for (int j = 0; j < 3; j++) {
                ASKING[(7 * i + 11 * j) % ASKING.length].of(x);
                check.due("question " + i, ASKING[i].of(x), ASKING[i].of(make()));
            }
        }
    }

    // nothing that was worked out ahead of a change is told behind it
    private static void changesAreSeenAtOnce() {
        for (int c = 0; c < CHANGING.length; c++) {
            TideMen due = make();
            CHANGING[c].of(due);
            String told = State.of(due);
            for (int i = 0; i < ASKING.length; i++) {
                TideMen x = make();
                ASKING[i].of(x);
                CHANGING[c].of(x);
                check.same("question " + i + ", then change " + c, State.of(x), told);
            }
        }
    }

    // sailors, houses and ships that were there once are there no more, in no plan either
    private static void nothingIsLeftOfLongerTexts() {
        String[] texts = {"a003;s911;t210;d597", "13;22", "05251;12390"};
        String due = State.of(Check.town(texts[0], texts[1], texts[2]));
        TideMen x = Check.town("d590;d591;d592;d593;a904;a905;a906;a907", "99;99;99;99;99;99;99;99",
            "00990;01990;02990;03990;04990;29990");
        x.digest();
        for (int text = 0; text < 3; text++) {
            x.wipe(text);
            Check.type(x, text, texts[text]);
        }
        check.same("texts typed anew", State.of(x), due);
    }
}
