/** Sailors, their boarding houses and the ships of one month; ../shared/DOC.md says what each call answers. */
public final class TideMen {
    public static final int NONE = -1, BAD = -2, NOT = -3, FULL = -4;

    private static final int NULL = 1, INDEX = 2, CAST = 3, STORE = 4, SIZE = 5;
    private static final int TEXTS = 3, MEN = 8, INNS = 8, FLEET = 6, MONTH = 30, FIGURES = 10;
    private static final int SOBER = 1, TAILOR = 2, DEAD = 3, KINDS = 4;
    private static final int MOST_SEEN = 8, MOST_MUCH = 999, SHEETS = 4, FORMS = 3, ITEMS = 60;
    private static final int LOST = -1, FLEETS = 1 << FLEET, SIXTEENTHS = 16, MOST_LEFT = 2;

    private final Text[] texts = new Text[TEXTS];
    private final Days days = new Days(), otherDays = new Days();
    private final Town town = days.town, otherTown = otherDays.town;
    private final int[] fates = new int[FLEETS * MEN];
    private final int[] answers = new int[FLEET * INNS];
    private final Sightings sightings = new Sightings();
    private final Sheet[] sheets = new Sheet[SHEETS];
    private boolean daysAreKnown = false, fatesAreKnown = false;
    private int finding = 0;

    public TideMen() {
        texts[0] = new Text("kffh", new char[39]);
        texts[1] = new Text("fn", new char[23]);
        texts[2] = new Text("dfnff", new char[35]);
        for (int s = 0; s < SHEETS; s++) {
            sheets[s] = new Sheet();
        }
    }

    /**
     * A text as it is typed. Its room ends with its last possible item, so no ninth (or seventh) can begin.
     * The shape of an item has a letter for each byte: k a kind, f a figure, h a house, n a figure above 0, d tens of
     * days.
     */
    private static final class Text {
        final String shape;
        final char[] bytes;
        int size = 0;

        Text(String shape, char[] bytes) {
            this.shape = shape;
            this.bytes = bytes;
        }

        int firstFault() {
            for (int p = 0; p < size && p < bytes.length; p++) {
                int q = p % step();
                boolean goesOn = q < shape.length() ? fits(shape.charAt(q), bytes[p]) : bytes[p] == ';';
                if (!goesOn) {
                    return p;
                }
            }
            return size == 0 || size % step() == shape.length() ? NONE : size;
        }

        int items() {
            return firstFault() == NONE ? (size + 1) / step() : 0;
        }

        char byteOf(int item, int q) {
            int p = item * step() + q;
            return p >= 0 && p < size && p < bytes.length ? bytes[p] : '0';
        }

        int figure(int item, int q) {
            return byteOf(item, q) - '0';
        }

        private int step() {
            return shape.length() + 1;
        }

        private static boolean fits(char sign, char b) {
            if (sign == 'k') {
                return kindOf(b) != NONE;
            }
            char least = sign == 'n' ? '1' : '0';
            char most = sign == 'h' ? '7' : sign == 'd' ? '2' : '9';
            return b >= least && b <= most;
        }

        static int kindOf(char b) {
            return "astd".indexOf(b);
        }
    }

    /** What the texts tell, or that with something else in its place. */
    private static final class Town {
        int men = 0, inns = 0, fleet = 0;
        int cap = 9;
        int absent = 0;
        final int[] kind = new int[MEN], thirst = new int[MEN], coins = new int[MEN], home = new int[MEN];
        final int[] rent = new int[INNS], beds = new int[INNS];
        final int[] tide = new int[FLEET], needs = new int[FLEET], advance = new int[FLEET], looks = new int[FLEET];

        void tellMen(Text text) {
            men = Math.min(MEN, text.items());
            for (int m = 0; m < men; m++) {
                kind[m] = Text.kindOf(text.byteOf(m, 0));
                thirst[m] = text.figure(m, 1);
                coins[m] = text.figure(m, 2);
                home[m] = text.figure(m, 3);
            }
        }

        void tellInns(Text text) {
            inns = Math.min(INNS, text.items());
            for (int n = 0; n < inns; n++) {
                rent[n] = text.figure(n, 0);
                beds[n] = text.figure(n, 1);
            }
        }

        void tellFleet(Text text) {
            fleet = Math.min(FLEET, text.items());
            for (int s = 0; s < fleet; s++) {
                tide[s] = 10 * text.figure(s, 0) + text.figure(s, 1);
                needs[s] = text.figure(s, 2);
                advance[s] = text.figure(s, 3);
                looks[s] = text.figure(s, 4);
            }
        }

        void become(Town other) {
            men = other.men;
            inns = other.inns;
            fleet = other.fleet;
            cap = other.cap;
            absent = other.absent;
            System.arraycopy(other.kind, 0, kind, 0, MEN);
            System.arraycopy(other.thirst, 0, thirst, 0, MEN);
            System.arraycopy(other.coins, 0, coins, 0, MEN);
            System.arraycopy(other.home, 0, home, 0, MEN);
            System.arraycopy(other.rent, 0, rent, 0, INNS);
            System.arraycopy(other.beds, 0, beds, 0, INNS);
            System.arraycopy(other.tide, 0, tide, 0, FLEET);
            System.arraycopy(other.needs, 0, needs, 0, FLEET);
            System.arraycopy(other.advance, 0, advance, 0, FLEET);
            System.arraycopy(other.looks, 0, looks, 0, FLEET);
        }

        boolean comes(int ship, int day) {
            return tide[ship] == day && (absent >> ship & 1) == 0;
        }

        boolean isSound(int man) {
            return kind[man] != TAILOR && kind[man] != DEAD;
        }

        int costOf(int man, int inn) {
            switch (kind[man]) {
                case SOBER: return 2 * rent[inn];
                case DEAD: return 0;
                default: return rent[inn] + thirst[man];
            }
        }
    }

    /** The month as it goes in a town: how things stand now, and how they stood behind each day. */
    private static final class Days {
        final Town town = new Town();
        final int[] debt = new int[MEN], held = new int[MEN], place = new int[MEN], sailedOn = new int[MEN];
        final int[] income = new int[INNS], freeBeds = new int[INNS];
        final int[] taken = new int[FLEET], ashore = new int[FLEET], aboard = new int[FLEET];
        final int[] debtBehind = new int[MONTH * MEN], heldBehind = new int[MONTH * MEN];
        final int[] placeBehind = new int[MONTH * MEN], incomeBehind = new int[MONTH * INNS];
        int lastAboard = NONE;

        void run() {
            begin();
            for (int day = 0; day < MONTH; day++) {
                for (int ship = 0; ship < town.fleet; ship++) {
                    if (town.comes(ship, day)) {
                        depart(ship, day);
                    }
                }
                for (int man = 0; man < town.men; man++) {
                    pay(man);
                }
                System.arraycopy(debt, 0, debtBehind, day * MEN, MEN);
                System.arraycopy(held, 0, heldBehind, day * MEN, MEN);
                System.arraycopy(place, 0, placeBehind, day * MEN, MEN);
                System.arraycopy(income, 0, incomeBehind, day * INNS, INNS);
            }
        }

        private void begin() {
            lastAboard = NONE;
            for (int ship = 0; ship < FLEET; ship++) {
                taken[ship] = 0;
                ashore[ship] = 0;
                aboard[ship] = 0;
            }
            for (int inn = 0; inn < INNS; inn++) {
                income[inn] = 0;
                freeBeds[inn] = inn < town.inns ? town.beds[inn] : 0;
            }
            for (int man = 0; man < town.men; man++) {
                debt[man] = town.kind[man] == DEAD ? 1 : 0;
                held[man] = 10 * town.coins[man];
                place[man] = bedIn(town.home[man]);
                sailedOn[man] = NONE;
            }
        }

        private int bedIn(int inn) {
            if (inn < 0 || inn >= INNS || freeBeds[inn] <= 0) {
                return NONE;
            }
            freeBeds[inn]--;
            return inn;
        }

        private void depart(int ship, int day) {
            for (int n = 0; n < MEN && n < town.needs[ship]; n++) {
                int man = deepestInDebt(taken[ship]);
                if (man == NONE) {
                    break;
                }
                taken[ship] |= 1 << man;
                if (n < town.looks[ship] && !town.isSound(man)) {
                    ashore[ship] |= 1 << man;
                } else {
                    board(man, ship, day);
                }
            }
            if (aboard[ship] != 0) {
                lastAboard = 31 - Integer.numberOfLeadingZeros(aboard[ship]);
            }
        }

        private int deepestInDebt(int passed) {
            int deepest = NONE;
            int most = 0;
            for (int man = 0; man < town.men; man++) {
                boolean isFree = isHouse(place[man]) && (passed >> man & 1) == 0;
                if (isFree && debt[man] > most) {
                    deepest = man;
                    most = debt[man];
                }
            }
            return deepest;
        }

        private void board(int man, int ship, int day) {
            if (isHouse(place[man])) {
                income[place[man]] += 10 * Math.min(town.advance[ship], town.cap);
            }
            aboard[ship] |= 1 << man;
            debt[man] = 0;
            place[man] = INNS + ship;
            sailedOn[man] = day;
        }

        private void pay(int man) {
            int inn = place[man];
            if (!isHouse(inn)) {
                return;
            }
            int cost = town.costOf(man, inn);
            int paid = Math.min(cost, held[man]);
            held[man] -= paid;
            income[inn] += paid;
            debt[man] += cost - paid;
        }

        private static boolean isHouse(int place) {
            return place >= 0 && place < INNS;
        }

        int owedTo(int inn, int day) {
            int sum = 0;
            for (int man = 0; man < town.men; man++) {
                if (placeBehind[day * MEN + man] == inn) {
                    sum += debtBehind[day * MEN + man];
                }
            }
            return sum;
        }

        int howManySailed() {
            int sum = 0;
            for (int ship = 0; ship < FLEET; ship++) {
                sum += Integer.bitCount(aboard[ship]);
            }
            return sum;
        }

        int howManySound(int ship) {
            int sum = 0;
            for (int man = 0; man < town.men; man++) {
                if ((aboard[ship] >> man & 1) == 1 && town.isSound(man)) {
                    sum++;
                }
            }
            return sum;
        }
    }

    /** What was seen of houses. */
    private static final class Sightings {
        final int[] day = new int[MOST_SEEN], inn = new int[MOST_SEEN], much = new int[MOST_SEEN];
        int size = 0;

        int more(int d, int n, int m) {
            if (!isDay(d) || n < 0 || n >= INNS || m < 0 || m > MOST_MUCH) {
                return BAD;
            }
            if (size < 0 || size >= MOST_SEEN) {
                return FULL;
            }
            day[size] = d;
            inn[size] = n;
            much[size] = m;
            size++;
            return size;
        }

        boolean comeOutSo(Days days) {
            for (int i = 0; i < size && i < MOST_SEEN; i++) {
                boolean isThere = inn[i] < days.town.inns;
                if (!isThere || days.incomeBehind[day[i] * INNS + inn[i]] != much[i]) {
                    return false;
                }
            }
            return true;
        }
    }

    /** A row of numbers of one form; its items always stand as that form holds them. */
    private static final class Sheet {
        final int[] items = new int[ITEMS];
        int form = LOST;
        int size = 0;

        void renew(int newForm, int n) {
            form = newForm;
            size = n;
            for (int i = 0; i < ITEMS; i++) {
                items[i] = 0;
            }
        }

        void set(int i, int v) {
            if (i >= 0 && i < size && i < ITEMS) {
                items[i] = form == 0 ? (byte) v : form == 1 ? (short) v : v;
            }
        }

        boolean holds(int i, int n) {
            return i >= 0 && n >= 0 && i <= size - n;
        }
    }

    // ---- sailors, houses, ships

    public int type(int text, int b) {
        if (!isText(text) || b < 0 || b > 255) {
            return BAD;
        }
        Text t = texts[text];
        if (t.size < 0 || t.size >= t.bytes.length) {
            return FULL;
        }
        t.bytes[t.size] = (char) b;
        return resize(t, t.size + 1);
    }

    public int wipe(int text) {
        if (!isText(text)) {
            return BAD;
        }
        int had = texts[text].size;
        resize(texts[text], 0);
        return had;
    }

    public int undo(int text) {
        if (!isText(text)) {
            return BAD;
        }
        if (texts[text].size == 0) {
            return NOT;
        }
        return resize(texts[text], texts[text].size - 1);
    }

    public int fault(int text) {
        return isText(text) ? texts[text].firstFault() : BAD;
    }

    public int sailor(int sailor, int what) {
        if (!isMan(sailor)) {
            return BAD;
        }
        switch (what) {
            case 0: return town.kind[sailor];
            case 1: return town.thirst[sailor];
            case 2: return town.coins[sailor];
            case 3: return town.home[sailor];
            default: return BAD;
        }
    }

    public int house(int house, int what) {
        if (!isInn(house)) {
            return BAD;
        }
        switch (what) {
            case 0: return town.rent[house];
            case 1: return town.beds[house];
            default: return BAD;
        }
    }

    public int ship(int ship, int what) {
        if (!isShip(ship)) {
            return BAD;
        }
        switch (what) {
            case 0: return town.tide[ship];
            case 1: return town.needs[ship];
            case 2: return town.advance[ship];
            case 3: return town.looks[ship];
            default: return BAD;
        }
    }

    public int cap(int v) {
        if (v < 0 || v >= FIGURES) {
            return BAD;
        }
        int was = town.cap;
        town.cap = v;
        forgetRuns();
        return was;
    }

    // ---- days

    public int owes(int day, int sailor) {
        if (!isDay(day) || !isMan(sailor)) {
            return BAD;
        }
        return month().debtBehind[day * MEN + sailor];
    }

    public int purse(int day, int sailor) {
        if (!isDay(day) || !isMan(sailor)) {
            return BAD;
        }
        return month().heldBehind[day * MEN + sailor];
    }

    public int where(int day, int sailor) {
        if (!isDay(day) || !isMan(sailor)) {
            return BAD;
        }
        return month().placeBehind[day * MEN + sailor];
    }

    public int takes(int day, int house, int what) {
        if (!isDay(day) || !isInn(house)) {
            return BAD;
        }
        switch (what) {
            case 0: return month().incomeBehind[day * INNS + house];
            case 1: return month().owedTo(house, day);
            default: return BAD;
        }
    }

    public int crew(int ship, int what) {
        if (!isShip(ship)) {
            return BAD;
        }
        Days m = month();
        switch (what) {
            case 0: return m.taken[ship];
            case 1: return m.ashore[ship];
            case 2: return m.aboard[ship];
            case 3: return m.howManySound(ship);
            case 4: return town.needs[ship] - Integer.bitCount(m.aboard[ship]);
            default: return BAD;
        }
    }

    public int richest(int day) {
        if (!isDay(day)) {
            return BAD;
        }
        int[] income = month().incomeBehind;
        int best = NONE;
        int most = NONE;
        for (int inn = 0; inn < town.inns; inn++) {
            if (income[day * INNS + inn] > most) {
                best = inn;
                most = income[day * INNS + inn];
            }
        }
        return best;
    }

    public int last() {
        return month().lastAboard;
    }

    // ---- plans

    public int price(int house, int what) {
        if (!isInn(house) || !isOneOf(what, 2)) {
            return BAD;
        }
        int best = NONE;
        int most = NONE;
        otherTown.become(town);
        for (int rent = 0; rent < FIGURES; rent++) {
            otherTown.rent[house] = rent;
            otherDays.run();
            if (otherDays.income[house] > most) {
                best = rent;
                most = otherDays.income[house];
            }
        }
        return what == 0 ? best : most;
    }

    public int lodge(int sailor, int what) {
        if (!isMan(sailor) || !isOneOf(what, 2)) {
            return BAD;
        }
        int best = NONE;
        int latest = NONE;
        otherTown.become(town);
        for (int inn = 0; inn < town.inns; inn++) {
            otherTown.home[sailor] = inn;
            otherDays.run();
            boolean lodges = otherDays.place[sailor] != NONE;
            int day = otherDays.sailedOn[sailor] == NONE ? MONTH : otherDays.sailedOn[sailor];
            if (lodges && day > latest) {
                best = inn;
                latest = day;
            }
        }
        if (what == 0) {
            return best;
        }
        return latest == MONTH ? NONE : latest;
    }

    public int look(int ship) {
        if (!isShip(ship)) {
            return BAD;
        }
        otherTown.become(town);
        for (int looks = 0; looks < FIGURES; looks++) {
            otherTown.looks[ship] = looks;
            otherDays.run();
            if (otherDays.howManySound(ship) == Integer.bitCount(otherDays.aboard[ship])) {
                return looks;
            }
        }
        return NONE;
    }

    public int leave(int sailor, int i) {
        if (!isMan(sailor) || i < NONE || i >= MOST_LEFT) {
            return BAD;
        }
        learnFates();
        int absent = fewestAbsent(sailor);
        if (absent == NONE) {
            return NONE;
        }
        int many = Integer.bitCount(absent);
        if (i == NONE) {
            return many;
        }
        if (i >= many) {
            return NONE;
        }
        return i == 0 ? Integer.numberOfTrailingZeros(absent) : 31 - Integer.numberOfLeadingZeros(absent);
    }

    // ---- seen, storms, ports

    public int seen(int day, int house, int much) {
        return sightings.more(day, house, much);
    }

    public int forget() {
        int had = sightings.size;
        sightings.size = 0;
        return had;
    }

    public int read(int s) {
        if (!isOneOf(s, SHEETS)) {
            return BAD;
        }
        Sheet from = sheets[s];
        if (from.form == LOST) {
            return found(NULL);
        }
        int took = 0;
        for (int i = 0; i + 2 < from.size && i + 2 < ITEMS; i += 3) {
            if (sightings.more(from.items[i], from.items[i + 1], from.items[i + 2]) < 0) {
                break;
            }
            took++;
        }
        return took;
    }

    public int never() {
        return shipsThatFit(0);
    }

    public int was(int sailor, int what) {
        if (!isMan(sailor) || !isOneOf(what, 2)) {
            return BAD;
        }
        otherTown.become(town);
        int[] row = what == 0 ? otherTown.kind : otherTown.thirst;
        int values = what == 0 ? KINDS : FIGURES;
        int fitting = 0;
        for (int v = 0; v < values; v++) {
            row[sailor] = v;
            otherDays.run();
            if (sightings.comeOutSo(otherDays)) {
                fitting |= 1 << v;
            }
        }
        return fitting;
    }

    public int ask(int day) {
        if (!isDay(day)) {
            return BAD;
        }
        int ships = shipsThatFit(day);
        int best = NONE;
        int least = FLEET + 1;
        for (int inn = 0; inn < town.inns; inn++) {
            int greatest = greatestAlike(ships, inn);
            if (greatest < least) {
                best = inn;
                least = greatest;
            }
        }
        return best;
    }

    public long storm(int c, int sailor, int day, int what) {
        if (c < 0 || c > SIXTEENTHS || !isMan(sailor) || !isDay(day) || !isOneOf(what, 2)) {
            return Long.MIN_VALUE - BAD;
        }
        learnFates();
        long above = 0;
        long below = 1L << 4 * town.fleet;
        for (int absent = 0; absent < 1 << town.fleet && absent < FLEETS; absent++) {
            int sails = fates[absent * MEN + sailor];
            if (sails != NONE && sails <= day) {
                above += weight(c, Integer.bitCount(absent));
            }
        }
        // below is a power of two, so that halving both is all that lowest terms need
        for (int i = 0; i < 4 * FLEET && above % 2 == 0 && below > 1; i++) {
            above /= 2;
            below /= 2;
        }
        return what == 0 ? above : below;
    }

    public int port(int seed, int house) {
        if (house != NONE && !isInn(house)) {
            return BAD;
        }
        otherTown.become(town);
        int lot = seed;
        for (int man = 0; man < town.men && town.inns > 0; man++) {
            lot = 1103515245 * lot + 12345;
            otherTown.home[man] = (lot >>> 16) % town.inns;
        }
        otherDays.run();
        return house == NONE ? otherDays.howManySailed() : otherDays.income[house];
    }

    // ---- sheets

    public int sheet(int s, int form, int n) {
        if (!isOneOf(s, SHEETS) || !isOneOf(form, FORMS) || n > ITEMS) {
            return BAD;
        }
        if (n < 0) {
            return found(SIZE);
        }
        sheets[s].renew(form, n);
        return n;
    }

    public int lose(int s) {
        if (!isOneOf(s, SHEETS)) {
            return BAD;
        }
        if (sheets[s].form == LOST) {
            return found(NULL);
        }
        sheets[s].form = LOST;
        return sheets[s].size;
    }

    public int put(int s, int form, int i, int v) {
        int refusal = refusalOf(s, form, i);
        if (refusal != 0) {
            return refusal;
        }
        sheets[s].set(i, v);
        return 1;
    }

    public int get(int s, int form, int i) {
        return refusalOf(s, form, i) == 0 ? sheets[s].items[i] : Integer.MIN_VALUE;
    }

    public int copy(int s, int i, int t, int j, int n) {
        if (!isOneOf(s, SHEETS) || !isOneOf(t, SHEETS)) {
            return BAD;
        }
        Sheet from = sheets[s];
        Sheet to = sheets[t];
        if (from.form == LOST || to.form == LOST) {
            return found(NULL);
        }
        if (from.form != to.form) {
            return found(STORE);
        }
        if (!from.holds(i, n) || !to.holds(j, n)) {
            return found(INDEX);
        }
        System.arraycopy(from.items, i, to.items, j, n);
        return 1;
    }

    public int write(int day, int s) {
        if (!isDay(day) || !isOneOf(s, SHEETS)) {
            return BAD;
        }
        Sheet to = sheets[s];
        if (to.form == LOST) {
            return found(NULL);
        }
        int many = Math.min(to.size, town.men);
        for (int man = 0; man < many; man++) {
            to.set(man, month().debtBehind[day * MEN + man]);
        }
        return many;
    }

    public int count(int what) {
        switch (what) {
            case 0: return town.men;
            case 1: return town.inns;
            case 2: return town.fleet;
            case 3: return texts[0].size;
            case 4: return texts[1].size;
            case 5: return texts[2].size;
            case 6: return month().howManySailed();
            case 7: return sightings.size;
            case 8: return finding;
            default: return BAD;
        }
    }

    public long digest() {
        long h = 17;
        for (int what = 0; what < 8; what++) {
            h = mix(h, count(what));
        }
        for (int text = 0; text < TEXTS; text++) {
            h = mix(h, fault(text));
        }
        for (int man = 0; man < town.men; man++) {
            h = mixPlansOf(mixDaysOf(h, man), man);
        }
        for (int inn = 0; inn < town.inns; inn++) {
            h = mixInn(h, inn);
        }
        for (int ship = 0; ship < town.fleet; ship++) {
            h = mixShip(h, ship);
        }
        h = mix(mix(mix(h, richest(9)), richest(29)), last());
        h = mix(mix(mix(h, never()), ask(9)), ask(29));
        return mix(h, port(7, NONE));
    }

    // ---- what the calls above share

    private static boolean isOneOf(int number, int many) {
        return number >= 0 && number < many;
    }

    private static boolean isDay(int day) {
        return isOneOf(day, MONTH);
    }

    private static boolean isText(int text) {
        return isOneOf(text, TEXTS);
    }

    private boolean isMan(int man) {
        return isOneOf(man, town.men);
    }

    private boolean isInn(int inn) {
        return isOneOf(inn, town.inns);
    }

    private boolean isShip(int ship) {
        return isOneOf(ship, town.fleet);
    }

    private int resize(Text text, int size) {
        text.size = size;
        town.tellMen(texts[0]);
        town.tellInns(texts[1]);
        town.tellFleet(texts[2]);
        forgetRuns();
        return size;
    }

    private void forgetRuns() {
        daysAreKnown = false;
        fatesAreKnown = false;
    }

    private Days month() {
        if (!daysAreKnown) {
            days.run();
            daysAreKnown = true;
        }
        return days;
    }

    // storms and plans ask for the same sets of absent ships again and again, so each set is run but once
    private void learnFates() {
        if (fatesAreKnown) {
            return;
        }
        otherTown.become(town);
        for (int absent = 0; absent < 1 << town.fleet && absent < FLEETS; absent++) {
            otherTown.absent = absent;
            otherDays.run();
            System.arraycopy(otherDays.sailedOn, 0, fates, absent * MEN, MEN);
        }
        fatesAreKnown = true;
    }

    private int fewestAbsent(int man) {
        if (staysWithout(0, man)) {
            return 0;
        }
        for (int a = 0; a < town.fleet; a++) {
            if (staysWithout(1 << a, man)) {
                return 1 << a;
            }
        }
        for (int a = 0; a < town.fleet; a++) {
            for (int b = a + 1; b < town.fleet; b++) {
                if (staysWithout(1 << a | 1 << b, man)) {
                    return 1 << a | 1 << b;
                }
            }
        }
        return NONE;
    }

    private boolean staysWithout(int absent, int man) {
        return isOneOf(absent, FLEETS) && fates[absent * MEN + man] == NONE;
    }

    // what each house took behind the day is kept beside, because ask() wants it of just these runs
    private int shipsThatFit(int day) {
        int ships = 0;
        otherTown.become(town);
        for (int ship = 0; ship < town.fleet; ship++) {
            otherTown.absent = 1 << ship;
            otherDays.run();
            System.arraycopy(otherDays.incomeBehind, day * INNS, answers, ship * INNS, INNS);
            if (sightings.comeOutSo(otherDays)) {
                ships |= 1 << ship;
            }
        }
        return ships;
    }

    private int greatestAlike(int ships, int inn) {
        int greatest = 0;
        for (int a = 0; a < town.fleet; a++) {
            int alike = 0;
            for (int b = 0; b < town.fleet; b++) {
                boolean bothMayBe = (ships >> a & 1) == 1 && (ships >> b & 1) == 1;
                if (bothMayBe && answers[a * INNS + inn] == answers[b * INNS + inn]) {
                    alike++;
                }
            }
            greatest = Math.max(greatest, alike);
        }
        return greatest;
    }

    private long weight(int c, int absent) {
        long weight = 1;
        for (int ship = 0; ship < town.fleet; ship++) {
            weight *= ship < absent ? SIXTEENTHS - c : c;
        }
        return weight;
    }

    private int found(int number) {
        finding = number;
        return -10 - number;
    }

    private int refusalOf(int s, int form, int i) {
        if (!isOneOf(s, SHEETS) || !isOneOf(form, FORMS)) {
            return BAD;
        }
        if (sheets[s].form == LOST) {
            return found(NULL);
        }
        if (sheets[s].form != form) {
            return found(CAST);
        }
        return isOneOf(i, sheets[s].size) ? 0 : found(INDEX);
    }

    private static long mix(long h, long told) {
        return 31 * h + told;
    }

    private long mixDaysOf(long h, int man) {
        long g = h;
        for (int what = 0; what < 4; what++) {
            g = mix(g, sailor(man, what));
        }
        g = mix(mix(g, owes(9, man)), owes(29, man));
        g = mix(g, purse(9, man));
        return mix(mix(g, where(9, man)), where(29, man));
    }

    private long mixPlansOf(long h, int man) {
        long g = mix(mix(h, lodge(man, 0)), lodge(man, 1));
        g = mix(mix(g, leave(man, NONE)), leave(man, 0));
        g = mix(mix(g, was(man, 0)), was(man, 1));
        return mix(mix(g, storm(5, man, 20, 0)), storm(5, man, 20, 1));
    }

    private long mixInn(long h, int inn) {
        long g = mix(mix(h, house(inn, 0)), house(inn, 1));
        g = mix(mix(g, takes(9, inn, 0)), takes(9, inn, 1));
        g = mix(mix(g, takes(29, inn, 0)), takes(29, inn, 1));
        g = mix(mix(g, price(inn, 0)), price(inn, 1));
        return mix(g, port(7, inn));
    }

    private long mixShip(long h, int ship) {
        long g = h;
        for (int what = 0; what < 4; what++) {
            g = mix(g, ship(ship, what));
        }
        for (int what = 0; what < 5; what++) {
            g = mix(g, crew(ship, what));
        }
        return mix(g, look(ship));
    }
}
