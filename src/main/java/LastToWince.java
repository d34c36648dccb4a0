/**
 * Rooms in which a lot goes to the dealer who winces last.
 * The rows that calls need are made once and used again, so that calls make next to nothing.
 */
public final class LastToWince {
    public static final int NONE = -1;

    private static final int NO_SUCH = NONE - 1;

    private static final int DEALERS = 10;
    private static final int LOTS = 12;
    private static final int WORDS = 8;
    private static final int LINES = 16;
    private static final int TAPE = 400;
    private static final int BOOK = 150;
    private static final int MINUTES = 200;
    private static final int KEPT = 6;

    private static final int SIGHTINGS = 16;
    private static final int CLAIMS = 6;
    private static final int BROUGHT = 7;
    private static final int BREATHS = 12;
    private static final int SEATS = 8;

    private static final int NERVE_MOST = 99;
    private static final int SKIN_MOST = 9;
    private static final int PURSE_MOST = 9999;
    private static final int WORTH_MOST = 999;
    private static final int KIND_MOST = 5;
    private static final int[] SET_MOST = {NERVE_MOST, SKIN_MOST, PURSE_MOST, WORTH_MOST, KIND_MOST};

    private static final int LAW = 0;
    private static final int SPEECH = 1;
    private static final int PINCHES = 2;
    private static final int SALE = 3;

    private static final int SALE_LOT = 0;
    private static final int SALE_BAR = 1;
    private static final int SALE_ADMIT = 2;
    private static final int SALE_DARK = 3;
    private static final int SALE_LIGHT = 4;

    private static final int WINCE = 0;
    private static final int PRICE = 1;
    private static final int CALM = 2;
    private static final int[] TOLD_MOST = {1000, 9999, 99};

    private static final int BOOK_WINCED = 0;
    private static final int BOOK_DRAGGED = 1;
    private static final int BOOK_SOLD = 2;
    private static final int BOOK_LIGHT = 3;

    private static final int MILLION = 1000000;

    private final World world = new World();
    private final World image = new World();
    private boolean imageTaken = false;
    private final Past past = new Past();
    private final Reader reader = new Reader();
    private final Room imagined = new Room();
    private final Auction auction = new Auction();
    private final Sets sets = new Sets();
    private final Orders orders = new Orders();
    private final Figures figures = new Figures();

    public LastToWince() {
    }

    public int state(int v) {
        int before = world.room.draws;
        world.room.draws = v;
        past.forget();
        return before;
    }

    public int dealer(int nerve, int skin, int purse, boolean blind) {
        boolean right = within(nerve, NERVE_MOST) && within(skin, SKIN_MOST) && within(purse, PURSE_MOST);
        if (!right || world.room.dealers >= DEALERS) {
            return NONE;
        }
        past.forget();
        return world.room.addDealer(nerve, skin, purse, blind ? 1 : 0);
    }

    public int lot(int kind, int worth) {
        if (!within(kind, KIND_MOST) || !within(worth, WORTH_MOST) || world.room.lots >= LOTS) {
            return NONE;
        }
        past.forget();
        return world.room.addLot(kind, worth);
    }

    public boolean set(int what, int who, int v) {
        Room room = world.room;
        if (!within(what, SET_MOST.length - 1) || !within(v, SET_MOST[what])) {
            return false;
        }
        if (what < 3 ? !room.isDealer(who) : !room.isLot(who)) {
            return false;
        }
        switch (what) {
            case 0: room.nerve[who] = v; break;
            case 1: room.skin[who] = v; break;
            case 2: room.purse[who] = v; break;
            case 3: room.worth[who] = v; break;
            default: room.kind[who] = v; break;
        }
        past.forget();
        return true;
    }

    public int sell(int lot) {
        if (!world.room.isLot(lot) || world.room.sold[lot] != NONE) {
            return NO_SUCH;
        }
        past.keep(world.room);
        auction.hold(world, world.room, lot, false);
        return auction.winner;
    }

    public boolean act(int what, int who) {
        Room room = world.room;
        if (what == 0 || what == 1) {
            int barred = what == 0 ? 1 : 0;
            if (!room.isDealer(who) || room.barred[who] == barred) {
                return false;
            }
            past.keep(room);
            room.barred[who] = barred;
            return true;
        }
        int dark = what == 2 ? 1 : 0;
        if ((what != 2 && what != 3) || room.dark == dark) {
            return false;
        }
        past.keep(room);
        room.dark = dark;
        return true;
    }

    public int house() {
        past.keep(world.room);
        int sales = 0;
        for (int i = 0; i < world.sale.count && i < LINES; i++) {
            if (saleLine(world.sale.kind[i], world.sale.first[i], world.sale.second[i])) {
                sales++;
            }
        }
        return sales;
    }

    private boolean saleLine(int kind, int number, int light) {
        Room room = world.room;
        if (kind != SALE_LOT) {
            if (room.isDealer(number)) {
                room.barred[number] = kind == SALE_BAR ? 1 : 0;
            }
            return false;
        }
        if (light == SALE_DARK || light == SALE_LIGHT) {
            room.dark = light == SALE_DARK ? 1 : 0;
        }
        if (!room.isLot(number) || room.sold[number] != NONE) {
            return false;
        }
        auction.hold(world, room, number, false);
        return auction.winner != NONE;
    }

    public int feed(int a, int b, int c, int d, int e) {
        if (reader.length + 20 > TAPE) {
            return NONE;
        }
        reader.take(a);
        reader.take(b);
        reader.take(c);
        reader.take(d);
        reader.take(e);
        return reader.length;
    }

    public boolean end(int n) {
        if (!within(n, reader.length)) {
            return false;
        }
        reader.length = n;
        return true;
    }

    public int text(int k) {
        reader.fault = 0;
        reader.place = NONE;
        boolean right = within(k, SALE) && reader.reads(k, world.room.dealers, world.room.lots);
        // the tape is empty then however it went, be there such a text or not
        reader.length = 0;
        if (!right) {
            return NONE;
        }
        if (k == LAW) {
            world.law.copy(reader.law);
            return world.law.lines;
        }
        // the law and the speech leave what can be undone, the other texts do not
        if (k != SPEECH) {
            past.forget();
        }
        Lines told = world.linesOf(k);
        told.copy(reader.lines);
        return told.count;
    }

    public int fault(int what) {
        if (what == 0) {
            return reader.fault;
        }
        return what == 1 ? reader.place : NONE;
    }

    public int of(int dealer, int what) {
        Room room = world.room;
        if (!room.isDealer(dealer)) {
            return NONE;
        }
        switch (what) {
            case 0: return room.nerve[dealer];
            case 1: return room.skin[dealer];
            case 2: return room.purse[dealer];
            case 3: return room.blind[dealer];
            case 4: return room.barred[dealer];
            case 5: return room.winced[dealer];
            case 6: return room.owned[dealer];
            case 7: return world.pinchedBy(1 << dealer);
            default: return NONE;
        }
    }

    public int lotOf(int lot, int what) {
        Room room = world.room;
        if (!room.isLot(lot)) {
            return NO_SUCH;
        }
        switch (what) {
            case 0: return room.kind[lot];
            case 1: return room.worth[lot];
            case 2: return room.sold[lot];
            default: return NO_SUCH;
        }
    }

    public int winces(int dealer, int lot, int word) {
        Room room = world.room;
        if (!room.isDealer(dealer) || !room.isLot(lot) || !within(word, WORDS - 1)) {
            return NONE;
        }
        return world.law.asked(room, WINCE, dealer, lot, word, 0, Integer.bitCount(room.entrants()));
    }

    public int word(int minute) {
        return within(minute, MINUTES - 1) ? world.wordAt(minute) : NONE;
    }

    public int book(int i, int what) {
        if (i < 0 || i >= world.room.bookLines || i >= BOOK) {
            return NONE;
        }
        switch (what) {
            case 0: return world.bookMinute[i];
            case 1: return world.bookWhat[i];
            case 2: return world.bookDealer[i];
            case 3: return world.bookWhich[i];
            default: return NONE;
        }
    }

    public int would(int lot, int what) {
        if (!world.room.isLot(lot) || !within(what, 2)) {
            return NONE;
        }
        imagined.copy(world.room);
        auction.hold(world, imagined, lot, true);
        if (auction.winner == NONE || what == 0) {
            return auction.winner;
        }
        return what == 1 ? auction.minutes : auction.paid;
    }

    public int worst(int dealer, int lot, int what) {
        Room room = world.room;
        if (!room.isDealer(dealer) || !room.isLot(lot) || !within(what, 1)) {
            return NONE;
        }
        int in = Integer.bitCount(room.entrants());
        int worstWord = 0;
        int most = NONE;
        for (int w = 0; w < WORDS; w++) {
            int wince = world.law.asked(room, WINCE, dealer, lot, w, 0, in);
            if (wince > most) {
                most = wince;
                worstWord = w;
            }
        }
        return what == 0 ? worstWord : most;
    }

    public int clears(int what) {
        if (!within(what, 1)) {
            return NONE;
        }
        int found = sets.clearing(world.room.admitted(), world.pinches);
        return what == 0 ? Integer.bitCount(found) : found;
    }

    public int sat(int what) {
        int present = world.room.admitted();
        if (Integer.bitCount(present) > SEATS) {
            return NONE;
        }
        orders.seat(present, world.pinches);
        return orders.told(what);
    }

    public int seen(int a, int b) {
        Thoughts thoughts = world.thoughts;
        if (a == NONE) {
            thoughts.sightings = 0;
            return 0;
        }
        Room room = world.room;
        if (!room.isDealer(a) || !room.isDealer(b) || a == b || thoughts.sightings >= SIGHTINGS) {
            return NONE;
        }
        thoughts.outlasting[thoughts.sightings] = a;
        thoughts.outlasted[thoughts.sightings] = b;
        thoughts.sightings++;
        return thoughts.sightings;
    }

    public int ranks(int what) {
        orders.rank(world.thoughts);
        return orders.told(what);
    }

    public int buys(int w, int what) {
        if (w < 1 || w > PURSE_MOST || !within(what, 1)) {
            return NONE;
        }
        int found = sets.bought(world.room, w);
        return what == 0 ? world.room.worthOf(found) : found;
    }

    public int claim(int v) {
        Thoughts thoughts = world.thoughts;
        if (v == NONE) {
            thoughts.claims = 0;
            return 0;
        }
        if (!within(v, 999) || thoughts.claims >= CLAIMS) {
            return NONE;
        }
        thoughts.claimed[thoughts.claims] = v;
        thoughts.claims++;
        return thoughts.claims;
    }

    public int shares(int n, int i) {
        Thoughts thoughts = world.thoughts;
        if (!within(n, 9999) || i < NONE || i >= thoughts.claims || thoughts.claims == 0) {
            return NONE;
        }
        if (i != NONE) {
            return figures.share(thoughts, n, i);
        }
        int over = n;
        for (int c = 0; c < thoughts.claims; c++) {
            over -= figures.share(thoughts, n, c);
        }
        return over;
    }

    public int likely(int p, int n, int m) {
        if (!within(p, 1000) || !within(n, 20) || m < n || m > 40) {
            return NONE;
        }
        return figures.palsy(p * 1000, n, m - n);
    }

    public int quiet(int t) {
        if (t < 1 || t >= MILLION) {
            return NONE;
        }
        int q = MILLION / 2;
        for (int m = 1; m <= 40; m++) {
            q = figures.palsy(q, 0, 1);
            if (q < t) {
                return m;
            }
        }
        return NONE;
    }

    public boolean puts(int word, int dealers) {
        if (!within(word, WORDS - 1) || !within(dealers, (1 << DEALERS) - 1)) {
            return false;
        }
        world.thoughts.putsOut[word] = dealers;
        return true;
    }

    public int outs(int what) {
        if (!within(what, 1)) {
            return NONE;
        }
        int found = sets.emptying(world.room.admitted(), world.thoughts.putsOut);
        return what == 0 && found != NONE ? Integer.bitCount(found) : found;
    }

    public int tells(int words) {
        int every = (1 << WORDS) - 1;
        if (words != NONE && !within(words, every)) {
            return NONE;
        }
        sets.learnCouples(world.room.dealers, world.thoughts.putsOut);
        return words == NONE ? sets.fewestTelling() : Long.bitCount(sets.toldApart(words));
    }

    public int bring(int worth, int tires) {
        Thoughts thoughts = world.thoughts;
        if (worth == NONE) {
            thoughts.brought = 0;
            return 0;
        }
        if (!within(worth, 99) || !within(tires, 9) || thoughts.brought >= BROUGHT) {
            return NONE;
        }
        thoughts.worth[thoughts.brought] = worth;
        thoughts.tires[thoughts.brought] = tires;
        thoughts.brought++;
        return thoughts.brought;
    }

    public int brings(int what) {
        orders.sellBest(world.thoughts);
        return orders.told(what);
    }

    public int breath(int v) {
        Thoughts thoughts = world.thoughts;
        if (v == NONE) {
            thoughts.breaths = 0;
            return 0;
        }
        if (!within(v, 99) || thoughts.breaths >= BREATHS) {
            return NONE;
        }
        thoughts.breathed[thoughts.breaths] = v;
        thoughts.breaths++;
        return thoughts.breaths;
    }

    public int breaths(int what) {
        if (what == 0) {
            return sets.fewestSwaps(world.thoughts.breathed, world.thoughts.breaths);
        }
        return what == 1 ? figures.wrongCouples(world.thoughts.breathed, world.thoughts.breaths) : NONE;
    }

    public int game(int what) {
        if (!within(what, 1)) {
            return NONE;
        }
        int dealer = figures.goodHeap(world.room);
        if (what == 0 || dealer == NONE) {
            return dealer;
        }
        return figures.goodTake(world.room, dealer);
    }

    public int rich(int what) {
        Room room = world.room;
        if (!within(what, 2) || room.dealers == 0) {
            return NONE;
        }
        if (what == 2) {
            return figures.median(room.nerve, room.dealers);
        }
        int richest = room.richest();
        return what == 0 ? richest : room.wealth(richest);
    }

    public boolean undo() {
        return past.goBack(world.room);
    }

    public boolean image(boolean taken) {
        if (taken) {
            image.copy(world);
            imageTaken = true;
            return true;
        }
        if (!imageTaken) {
            return false;
        }
        world.copy(image);
        past.forget();
        return true;
    }

    public int look(int what) {
        Room room = world.room;
        switch (what) {
            case 0: return room.dealers;
            case 1: return room.lots;
            case 2: return room.dark;
            case 3: return room.minute;
            case 4: return room.taken;
            case 5: return room.everyone() & ~room.admitted();
            case 6: return room.unsold();
            case 7: return room.bookLines;
            case 8: return room.draws;
            case 9: return world.law.lines;
            case 10: return world.speech.count;
            case 11: return world.pinches.count;
            case 12: return world.sale.count;
            case 13: return past.count;
            default: return NONE;
        }
    }

    private static boolean within(int v, int most) {
        return v >= 0 && v <= most;
    }

    private static boolean has(int set, int member) {
        return (set >> member & 1) != 0;
    }

    private static void copyRow(int[] from, int[] to) {
        System.arraycopy(from, 0, to, 0, Math.min(from.length, to.length));
    }

    private static void sortInto(int[] sorted, int[] row, int n) {
        for (int i = 0; i < n && i < row.length && i < sorted.length; i++) {
            int at = i;
            for (; at > 0 && sorted[at - 1] > row[i]; at--) {
                sorted[at] = sorted[at - 1];
            }
            sorted[at] = row[i];
        }
    }

    /** Dealers, lots and what a sale changes of them: all that going back in time has to put back. */
    private static final class Room {
        int dealers = 0;
        int lots = 0;
        int dark = 0;
        int minute = 0;
        int taken = 0;
        int draws = 0;
        int bookLines = 0;
        final int[] nerve = new int[DEALERS];
        final int[] skin = new int[DEALERS];
        final int[] purse = new int[DEALERS];
        final int[] blind = new int[DEALERS];
        final int[] barred = new int[DEALERS];
        final int[] winced = new int[DEALERS];
        final int[] owned = new int[DEALERS];
        final int[] kind = new int[LOTS];
        final int[] worth = new int[LOTS];
        final int[] sold = new int[LOTS];

        boolean isDealer(int d) {
            return d >= 0 && d < dealers && d < DEALERS;
        }

        boolean isLot(int l) {
            return l >= 0 && l < lots && l < LOTS;
        }

        int addDealer(int itsNerve, int itsSkin, int itsPurse, int itsBlind) {
            int d = dealers;
            if (d < 0 || d >= DEALERS) {
                return NONE;
            }
            nerve[d] = itsNerve;
            skin[d] = itsSkin;
            purse[d] = itsPurse;
            blind[d] = itsBlind;
            barred[d] = 0;
            winced[d] = 0;
            owned[d] = 0;
            dealers++;
            return d;
        }

        int addLot(int itsKind, int itsWorth) {
            int l = lots;
            if (l < 0 || l >= LOTS) {
                return NONE;
            }
            kind[l] = itsKind;
            worth[l] = itsWorth;
            sold[l] = NONE;
            lots++;
            return l;
        }

        int draw(int m) {
            draws = draws * 1664525 + 1013904223;
            return m > 0 ? (draws >>> 8) % m : 0;
        }

        int everyone() {
            return (1 << dealers) - 1;
        }

        int admitted() {
            int set = 0;
            for (int d = 0; d < dealers && d < DEALERS; d++) {
                if (barred[d] == 0) {
                    set |= 1 << d;
                }
            }
            return set;
        }

        int entrants() {
            int set = 0;
            for (int d = 0; d < dealers && d < DEALERS; d++) {
                if (barred[d] == 0 && purse[d] > 0) {
                    set |= 1 << d;
                }
            }
            return set;
        }

        int unsold() {
            int set = 0;
            for (int l = 0; l < lots && l < LOTS; l++) {
                if (sold[l] == NONE) {
                    set |= 1 << l;
                }
            }
            return set;
        }

        int calmest(int among) {
            int found = NONE;
            for (int d = 0; d < dealers && d < DEALERS; d++) {
                if (has(among, d) && (found == NONE || nerve[d] > nerve[found])) {
                    found = d;
                }
            }
            return found;
        }

        int worthOf(int set) {
            int sum = 0;
            for (int l = 0; l < lots && l < LOTS; l++) {
                if (has(set, l)) {
                    sum += worth[l];
                }
            }
            return sum;
        }

        int wealth(int d) {
            int sum = isDealer(d) ? purse[d] : 0;
            for (int l = 0; l < lots && l < LOTS; l++) {
                if (sold[l] == d) {
                    sum += worth[l];
                }
            }
            return sum;
        }

        int richest() {
            int found = NONE;
            int most = NONE;
            for (int d = 0; d < dealers && d < DEALERS; d++) {
                int its = wealth(d);
                if (its > most) {
                    most = its;
                    found = d;
                }
            }
            return found;
        }

        void copy(Room other) {
            dealers = other.dealers;
            lots = other.lots;
            dark = other.dark;
            minute = other.minute;
            taken = other.taken;
            draws = other.draws;
            bookLines = other.bookLines;
            copyRow(other.nerve, nerve);
            copyRow(other.skin, skin);
            copyRow(other.purse, purse);
            copyRow(other.blind, blind);
            copyRow(other.barred, barred);
            copyRow(other.winced, winced);
            copyRow(other.owned, owned);
            copyRow(other.kind, kind);
            copyRow(other.worth, worth);
            copyRow(other.sold, sold);
        }
    }

    /** The lines of a speech, of pinches or of a sale. */
    private static final class Lines {
        int count = 0;
        final int[] kind = new int[LINES];
        final int[] first = new int[LINES];
        final int[] second = new int[LINES];

        void add(int itsKind, int itsFirst, int itsSecond) {
            int i = count;
            if (i < 0 || i >= LINES) {
                return;
            }
            kind[i] = itsKind;
            first[i] = itsFirst;
            second[i] = itsSecond;
            count++;
        }

        void copy(Lines other) {
            count = other.count;
            copyRow(other.kind, kind);
            copyRow(other.first, first);
            copyRow(other.second, second);
        }
    }

    /** The law as code for a small stack: operands first, then what joins them. */
    private static final class Law {
        static final int NERVE = 0;
        static final int SKIN = 1;
        static final int BLIND = 2;
        static final int WINCED = 3;
        static final int KIND = 4;
        static final int WORTH = 5;
        static final int WORD = 6;
        static final int MINUTE = 7;
        static final int DARK = 8;
        static final int IN = 9;
        static final int FACTS = 10;
        static final int NUMBER = 10;
        static final int PLUS = 11;
        static final int MINUS = 12;
        static final int TIMES = 13;
        static final int BY = 14;
        static final int BELOW = 15;
        static final int LIKE = 16;
        static final int ABOVE = 17;
        static final int NOT = 18;
        static final int AND = 19;
        static final int OR = 20;
        // eight open brackets leave two operands waiting each, a comparison four more
        static final int DEEPEST = 32;

        int lines = 0;
        int length = 0;
        final int[] told = new int[LINES];
        final int[] begin = new int[LINES];
        final int[] when = new int[LINES];
        final int[] close = new int[LINES];
        final int[] ops = new int[TAPE];
        final int[] args = new int[TAPE];
        final int[] facts = new int[FACTS];
        final int[] stack = new int[DEEPEST];

        void emit(int op, int arg) {
            if (length < TAPE) {
                ops[length] = op;
                args[length] = arg;
                length++;
            }
        }

        int asked(Room room, int what, int dealer, int lot, int word, int minute, int in) {
            if (!room.isDealer(dealer) || !room.isLot(lot) || !within(what, CALM)) {
                return 0;
            }
            facts[NERVE] = room.nerve[dealer];
            facts[SKIN] = room.skin[dealer];
            facts[BLIND] = room.blind[dealer];
            facts[WINCED] = room.winced[dealer];
            facts[KIND] = room.kind[lot];
            facts[WORTH] = room.worth[lot];
            facts[WORD] = word;
            facts[MINUTE] = minute;
            facts[DARK] = room.dark;
            facts[IN] = in;
            return Math.max(0, Math.min(TOLD_MOST[what], answer(what)));
        }

        private int answer(int what) {
            for (int i = 0; i < lines && i < LINES; i++) {
                if (told[i] == what && (when[i] == close[i] || value(when[i], close[i]) != 0)) {
                    return value(begin[i], when[i]);
                }
            }
            if (what == WINCE) {
                return 300 - 3 * facts[NERVE];
            }
            return what == PRICE ? facts[WORTH] / 2 : 5;
        }

        private int value(int from, int to) {
            int top = 0;
            for (int i = from; i >= 0 && i < to && i < TAPE; i++) {
                int op = ops[i];
                if (op >= 0 && op <= NUMBER) {
                    if (top < DEEPEST) {
                        stack[top] = op < FACTS ? facts[op] : args[i];
                        top++;
                    }
                } else if (op == NOT) {
                    if (top > 0) {
                        stack[top - 1] = 1 - stack[top - 1];
                    }
                } else if (op == BY) {
                    if (top > 0 && args[i] != 0) {
                        stack[top - 1] = stack[top - 1] / args[i];
                    }
                } else if (top > 1) {
                    top--;
                    stack[top - 1] = joined(op, stack[top - 1], stack[top]);
                }
            }
            return stack[0];
        }

        private static int joined(int op, int a, int b) {
            switch (op) {
                case PLUS: return a + b;
                case MINUS: return a - b;
                case TIMES: return a * b;
                case BELOW: return a < b ? 1 : 0;
                case LIKE: return a == b ? 1 : 0;
                case ABOVE: return a > b ? 1 : 0;
                case AND: return a & b;
                default: return a | b;
            }
        }

        void copy(Law other) {
            lines = other.lines;
            length = other.length;
            copyRow(other.told, told);
            copyRow(other.begin, begin);
            copyRow(other.when, when);
            copyRow(other.close, close);
            copyRow(other.ops, ops);
            copyRow(other.args, args);
        }
    }

    /** What is told for thought alone. */
    private static final class Thoughts {
        int sightings = 0;
        final int[] outlasting = new int[SIGHTINGS];
        final int[] outlasted = new int[SIGHTINGS];
        int claims = 0;
        final int[] claimed = new int[CLAIMS];
        final int[] putsOut = new int[WORDS];
        int brought = 0;
        final int[] worth = new int[BROUGHT];
        final int[] tires = new int[BROUGHT];
        int breaths = 0;
        final int[] breathed = new int[BREATHS];

        void copy(Thoughts other) {
            sightings = other.sightings;
            copyRow(other.outlasting, outlasting);
            copyRow(other.outlasted, outlasted);
            claims = other.claims;
            copyRow(other.claimed, claimed);
            copyRow(other.putsOut, putsOut);
            brought = other.brought;
            copyRow(other.worth, worth);
            copyRow(other.tires, tires);
            breaths = other.breaths;
            copyRow(other.breathed, breathed);
        }
    }

    /** All that an image holds. */
    private static final class World {
        final Room room = new Room();
        final Law law = new Law();
        final Lines speech = new Lines();
        final Lines pinches = new Lines();
        final Lines sale = new Lines();
        final Thoughts thoughts = new Thoughts();
        // the room knows how many lines of the book stand, so that going back in time just shortens it
        final int[] bookMinute = new int[BOOK];
        final int[] bookWhat = new int[BOOK];
        final int[] bookDealer = new int[BOOK];
        final int[] bookWhich = new int[BOOK];

        void write(int what, int dealer, int which) {
            int i = room.bookLines;
            if (i < 0 || i >= BOOK) {
                return;
            }
            bookMinute[i] = room.minute;
            bookWhat[i] = what;
            bookDealer[i] = dealer;
            bookWhich[i] = which;
            room.bookLines++;
        }

        Lines linesOf(int k) {
            if (k == SPEECH) {
                return speech;
            }
            return k == PINCHES ? pinches : sale;
        }

        int wordAt(int minute) {
            int whole = 0;
            for (int i = 0; i < speech.count && i < LINES; i++) {
                whole += speech.second[i];
            }
            int left = whole > 0 ? minute % whole : 0;
            for (int i = 0; i < speech.count && i < LINES; i++) {
                if (left < speech.second[i]) {
                    return speech.first[i];
                }
                left -= speech.second[i];
            }
            return 0;
        }

        int pinchedBy(int set) {
            int pinched = 0;
            for (int i = 0; i < pinches.count && i < LINES; i++) {
                if (has(set, pinches.first[i])) {
                    pinched |= 1 << pinches.second[i];
                }
            }
            return pinched;
        }

        void copy(World other) {
            room.copy(other.room);
            law.copy(other.law);
            speech.copy(other.speech);
            pinches.copy(other.pinches);
            sale.copy(other.sale);
            thoughts.copy(other.thoughts);
            copyRow(other.bookMinute, bookMinute);
            copyRow(other.bookWhat, bookWhat);
            copyRow(other.bookDealer, bookDealer);
            copyRow(other.bookWhich, bookWhich);
        }
    }

    /** Rooms as they were ahead of the latest acts, in a ring of which the oldest gives way. */
    private static final class Past {
        int count = 0;
        private int next = 0;
        private final Room[] kept = new Room[KEPT];

        Past() {
            for (int i = 0; i < KEPT; i++) {
                kept[i] = new Room();
            }
        }

        void keep(Room room) {
            if (next < 0 || next >= KEPT || kept[next] == null) {
                return;
            }
            kept[next].copy(room);
            next = (next + 1) % KEPT;
            count = Math.min(KEPT, count + 1);
        }

        boolean goBack(Room room) {
            int latest = next == 0 ? KEPT - 1 : next - 1;
            if (count == 0 || latest < 0 || latest >= KEPT || kept[latest] == null) {
                return false;
            }
            room.copy(kept[latest]);
            next = latest;
            count--;
            return true;
        }

        void forget() {
            count = 0;
        }
    }

    /** The tape, and what reads it: signs are cut into tokens first, then the tokens are read from left to right. */
    private static final class Reader {
        static final int END = 0;
        static final int NUMBER = 1;
        static final int KEYWORD = 2;
        static final int SIGN = 3;
        static final int NO_TOKEN = 4;

        static final int UNFIT = 1;
        static final int BEYOND = 2;
        static final int TOO_MANY = 3;

        static final String SIGNS = ";+-*/()<=>";
        static final String LAW_WORDS =
            "wince price calm when or and not nerve skin blind winced kind worth word minute dark in";
        static final int WHEN = 3;
        static final int OR = 4;
        static final int AND = 5;
        static final int NOT = 6;
        static final int FIRST_FACT = 7;
        static final String SPEECH_WORDS = "say for";
        static final int SAY = 0;
        static final int FOR = 1;
        static final String PINCHES_WORDS = "dealer pinches";
        static final int DEALER = 0;
        static final int PINCHES_WORD = 1;
        static final String SALE_WORDS = "lot bar admit dark light";

        static final int DIGITS = 4;
        static final int OPEN_MOST = 8;
        static final int ANY = 0;
        static final int ALL = 1;

        int length = 0;
        int fault = 0;
        int place = NONE;
        final Law law = new Law();
        final Lines lines = new Lines();
        private final byte[] tape = new byte[TAPE];
        private String words = LAW_WORDS;
        private int dealers = 0;
        private int lots = 0;
        private int tokens = 0;
        private int next = 0;
        private int kind = END;
        private int value = 0;
        private int begin = 0;
        // one more than bytes: the end is a token too
        private final int[] kinds = new int[TAPE + 1];
        private final int[] values = new int[TAPE + 1];
        private final int[] places = new int[TAPE + 1];

        void take(int number) {
            for (int shift = 24; shift >= 0; shift -= 8) {
                if (length < TAPE) {
                    tape[length] = (byte) (number >> shift);
                    length++;
                }
            }
        }

        boolean reads(int k, int itsDealers, int itsLots) {
            words = k == LAW ? LAW_WORDS : k == SPEECH ? SPEECH_WORDS : k == PINCHES ? PINCHES_WORDS : SALE_WORDS;
            dealers = itsDealers;
            lots = itsLots;
            cut();
            law.lines = 0;
            law.length = 0;
            lines.count = 0;
            next = NONE;
            step();
            // a line begins with one of the first keywords of its text
            int begins = k == LAW ? CALM : k == SALE ? SALE_ADMIT : 0;
            for (int line = 0; line <= LINES && kind != END; line++) {
                if (kind != KEYWORD || value > begins) {
                    return wrong(UNFIT);
                }
                if (line == LINES) {
                    return wrong(TOO_MANY);
                }
                boolean right = k == LAW ? lawLine(line) : k == SPEECH ? speechLine()
                    : k == PINCHES ? pinchesLine() : saleLine();
                if (!right || !closes(';')) {
                    return false;
                }
            }
            return true;
        }

        private void cut() {
            tokens = 0;
            int at = 0;
            for (int i = 0; i < TAPE && at < length; i++) {
                if (tape[at] == 32 || tape[at] == 10) {
                    at++;
                } else {
                    at = cutToken(at);
                }
            }
            put(END, 0, length);
        }

        private int cutToken(int at) {
            int stop = at + 1;
            if (isLetter(tape[at])) {
                while (stop < length && isLetter(tape[stop])) {
                    stop++;
                }
                int keyword = keyword(at, stop);
                put(keyword == NONE ? NO_TOKEN : KEYWORD, keyword, at);
            } else if (isDigit(tape[at])) {
                int number = tape[at] - '0';
                while (stop < length && isDigit(tape[stop])) {
                    number = number * 10 + tape[stop] - '0';
                    stop++;
                }
                put(stop - at > DIGITS ? NO_TOKEN : NUMBER, number, at);
            } else {
                char sign = (char) (tape[at] & 255);
                put(SIGNS.indexOf(sign) >= 0 ? SIGN : NO_TOKEN, sign, at);
            }
            return stop;
        }

        private void put(int itsKind, int itsValue, int at) {
            if (tokens <= TAPE) {
                kinds[tokens] = itsKind;
                values[tokens] = itsValue;
                places[tokens] = at;
                tokens++;
            }
        }

        private static boolean isLetter(int c) {
            return (c >= 'a' && c <= 'z') || (c >= 'A' && c <= 'Z');
        }

        private static boolean isDigit(int c) {
            return c >= '0' && c <= '9';
        }

        private int keyword(int from, int to) {
            int index = 0;
            int alike = 0;
            for (int i = 0; i <= words.length(); i++) {
                char c = i < words.length() ? words.charAt(i) : ' ';
                if (c == ' ') {
                    if (alike == to - from) {
                        return index;
                    }
                    index++;
                    alike = 0;
                } else if (alike != NONE) {
                    alike = from + alike < to && tape[from + alike] == c ? alike + 1 : NONE;
                }
            }
            return NONE;
        }

        private void step() {
            next++;
            boolean there = next >= 0 && next < tokens && next <= TAPE;
            kind = there ? kinds[next] : END;
            value = there ? values[next] : 0;
            begin = there ? places[next] : length;
        }

        private boolean isSign(char c) {
            return kind == SIGN && value == c;
        }

        private boolean isWord(int keyword) {
            return kind == KEYWORD && value == keyword;
        }

        private boolean wrong(int itsFault) {
            fault = itsFault;
            place = begin;
            return false;
        }

        private boolean closes(char c) {
            if (!isSign(c)) {
                return wrong(UNFIT);
            }
            step();
            return true;
        }

        private boolean takesNumber(int least, int most) {
            if (kind != NUMBER) {
                return wrong(UNFIT);
            }
            if (value < least || value > most) {
                return wrong(BEYOND);
            }
            step();
            return true;
        }

        private boolean lawLine(int line) {
            law.told[line] = value;
            law.begin[line] = law.length;
            step();
            if (!sum()) {
                return false;
            }
            law.when[line] = law.length;
            if (isWord(WHEN)) {
                step();
                if (!chain(ANY, 0)) {
                    return false;
                }
            }
            law.close[line] = law.length;
            law.lines = line + 1;
            return true;
        }

        /** What or joins and, a level below, what and joins; open is how many ( and not are. */
        private boolean chain(int level, int open) {
            for (int i = 0; i <= TAPE; i++) {
                boolean right = level == ANY ? chain(ALL, open) : condition(open);
                if (!right) {
                    return false;
                }
                if (i > 0) {
                    law.emit(level == ANY ? Law.OR : Law.AND, 0);
                }
                if (!isWord(level == ANY ? OR : AND)) {
                    return true;
                }
                step();
            }
            return wrong(UNFIT);
        }

        private boolean condition(int open) {
            boolean not = isWord(NOT);
            if (not || isSign('(')) {
                if (open >= OPEN_MOST) {
                    return wrong(TOO_MANY);
                }
                step();
                boolean right = not ? condition(open + 1) : chain(ANY, open + 1) && closes(')');
                if (right && not) {
                    law.emit(Law.NOT, 0);
                }
                return right;
            }
            if (!sum()) {
                return false;
            }
            int compare = isSign('<') ? Law.BELOW : isSign('=') ? Law.LIKE : isSign('>') ? Law.ABOVE : NONE;
            if (compare == NONE) {
                return wrong(UNFIT);
            }
            step();
            if (!sum()) {
                return false;
            }
            law.emit(compare, 0);
            return true;
        }

        private boolean sum() {
            int join = NONE;
            for (int i = 0; i <= TAPE; i++) {
                if (!term()) {
                    return false;
                }
                if (join != NONE) {
                    law.emit(join, 0);
                }
                join = isSign('+') ? Law.PLUS : isSign('-') ? Law.MINUS : NONE;
                if (join == NONE) {
                    return true;
                }
                step();
            }
            return wrong(UNFIT);
        }

        private boolean term() {
            int join = NONE;
            for (int i = 0; i <= TAPE; i++) {
                boolean number = kind == NUMBER;
                boolean fact = kind == KEYWORD && value >= FIRST_FACT;
                if (join == Law.BY ? !number : !number && !fact) {
                    return wrong(UNFIT);
                }
                if (join == Law.BY) {
                    if (value == 0) {
                        return wrong(BEYOND);
                    }
                    law.emit(Law.BY, value);
                } else {
                    law.emit(number ? Law.NUMBER : value - FIRST_FACT, number ? value : 0);
                }
                if (join == Law.TIMES) {
                    law.emit(Law.TIMES, 0);
                }
                step();
                join = isSign('*') ? Law.TIMES : isSign('/') ? Law.BY : NONE;
                if (join == NONE) {
                    return true;
                }
                step();
            }
            return wrong(UNFIT);
        }

        private boolean speechLine() {
            step();
            int word = value;
            if (!takesNumber(0, WORDS - 1)) {
                return false;
            }
            int minutes = 1;
            if (isWord(FOR)) {
                step();
                minutes = value;
                if (!takesNumber(1, 60)) {
                    return false;
                }
            }
            lines.add(SAY, word, minutes);
            return true;
        }

        private boolean pinchesLine() {
            step();
            int from = value;
            if (!takesNumber(0, dealers - 1)) {
                return false;
            }
            if (!isWord(PINCHES_WORD)) {
                return wrong(UNFIT);
            }
            step();
            int to = value;
            if (kind == NUMBER && to == from) {
                return wrong(BEYOND);
            }
            if (!takesNumber(0, dealers - 1)) {
                return false;
            }
            lines.add(DEALER, from, to);
            return true;
        }

        private boolean saleLine() {
            int what = value;
            step();
            int number = value;
            if (!takesNumber(0, what == SALE_LOT ? lots - 1 : dealers - 1)) {
                return false;
            }
            int light = NONE;
            if (what == SALE_LOT && (isWord(SALE_DARK) || isWord(SALE_LIGHT))) {
                light = value;
                step();
            }
            lines.add(what, number, light);
            return true;
        }
    }

    /** The selling of a lot, for good by draws, or in thought without them. */
    private static final class Auction {
        int winner = NONE;
        int minutes = 0;
        int paid = 0;

        /** The room is the world's own, or one that is only thought of: the texts and the book are the world's. */
        void hold(World world, Room room, int lot, boolean thought) {
            winner = NONE;
            minutes = 0;
            paid = 0;
            int first = room.entrants();
            if (first == 0 || !room.isLot(lot)) {
                return;
            }
            int in = first;
            int everWinced = 0;
            for (int i = 0; i < MINUTES && Integer.bitCount(in) > 1; i++) {
                int word = world.wordAt(i);
                int wincing = wincing(world, room, lot, in, word, thought);
                in = remaining(world, room, in, wincing, word, thought);
                everWinced |= wincing;
                room.minute++;
                minutes++;
            }
            winner = room.calmest(in);
            if (Integer.bitCount(in) > 1 && !thought) {
                world.write(BOOK_LIGHT, winner, lot);
            }
            settle(world, room, lot, everWinced & first, thought);
        }

        private int wincing(World world, Room room, int lot, int in, int word, boolean thought) {
            int count = Integer.bitCount(in);
            int set = 0;
            for (int d = 0; d < room.dealers && d < DEALERS; d++) {
                if (!has(in, d)) {
                    continue;
                }
                int wince = world.law.asked(room, WINCE, d, lot, word, minutes, count);
                if (thought ? wince >= 500 : room.draw(1000) < wince) {
                    set |= 1 << d;
                    room.winced[d]++;
                    if (!thought) {
                        world.write(BOOK_WINCED, d, word);
                    }
                }
            }
            return set;
        }

        private int remaining(World world, Room room, int in, int wincing, int word, boolean thought) {
            if (wincing == 0) {
                return in;
            }
            int dragged = world.pinchedBy(wincing) & in & ~wincing;
            for (int d = 0; d < room.dealers && !thought; d++) {
                if (has(dragged, d)) {
                    world.write(BOOK_DRAGGED, d, word);
                }
            }
            int left = in & ~wincing & ~dragged;
            return left != 0 ? left : 1 << room.calmest(in);
        }

        private void settle(World world, Room room, int lot, int everWinced, boolean thought) {
            if (!room.isDealer(winner) || !room.isLot(lot)) {
                return;
            }
            paid = Math.min(room.purse[winner], world.law.asked(room, PRICE, winner, lot, 0, minutes, 1));
            room.purse[winner] -= paid;
            room.taken += paid;
            room.sold[lot] = winner;
            room.owned[winner]++;
            if (!thought) {
                world.write(BOOK_SOLD, winner, lot);
            }
            int calm = world.law.asked(room, CALM, winner, lot, 0, minutes, 1);
            room.nerve[winner] = Math.min(NERVE_MOST, room.nerve[winner] + calm);
            for (int d = 0; d < room.dealers && d < DEALERS; d++) {
                if (d != winner && has(everWinced, d)) {
                    room.nerve[d] = Math.max(0, room.nerve[d] - 3);
                }
            }
        }
    }

    /** Searches through sets: they are tried from the least on, so that of several the least is found. */
    private static final class Sets {
        private static final int COUPLES = DEALERS * (DEALERS - 1) / 2;

        private final int[] reach = new int[DEALERS];
        private final long[] couples = new long[WORDS];
        private final long[] delta = new long[BREATHS];
        private final int[] sorted = new int[BREATHS];
        // these are long and few objects need them, so they are made when they are first asked for
        private long[] sums = null;
        private int[] parts = null;

        private long[] sumsOfSets() {
            if (sums == null) {
                sums = new long[1 << LOTS];
            }
            return sums;
        }

        private int[] partsOfSets() {
            if (parts == null) {
                parts = new int[1 << BREATHS];
            }
            return parts;
        }

        int clearing(int present, Lines pinches) {
            reachAlong(present, pinches);
            return fewestCovering(present, reach, 32 - Integer.numberOfLeadingZeros(present));
        }

        int emptying(int present, int[] putsOut) {
            return fewestCovering(present, putsOut, WORDS);
        }

        /** The fewest of the rows that cover all of what is to be covered: NONE if all of them do not. */
        private int fewestCovering(int whole, int[] rows, int count) {
            int[] covered = partsOfSets();
            int found = NONE;
            covered[0] = 0;
            for (int set = 0; set < 1 << count && set < covered.length; set++) {
                int row = Integer.numberOfTrailingZeros(set);
                if (row < count && row < rows.length) {
                    covered[set] = covered[set & set - 1] | rows[row];
                }
                boolean fewer = found == NONE || Integer.bitCount(set) < Integer.bitCount(found);
                if (fewer && (whole & ~covered[set]) == 0) {
                    found = set;
                }
            }
            return found;
        }

        private void reachAlong(int present, Lines pinches) {
            for (int d = 0; d < DEALERS; d++) {
                reach[d] = present & 1 << d;
            }
            // a chain of pinches has at most as many links as there are dealers
            for (int round = 0; round < DEALERS; round++) {
                for (int i = 0; i < pinches.count && i < LINES; i++) {
                    int from = pinches.first[i];
                    int to = pinches.second[i];
                    if (within(from, DEALERS - 1) && within(to, DEALERS - 1) && has(present, from)) {
                        reach[from] |= reach[to];
                    }
                }
            }
        }

        void learnCouples(int dealers, int[] putsOut) {
            for (int w = 0; w < WORDS && w < putsOut.length; w++) {
                long told = 0;
                int couple = 0;
                for (int b = 1; b < dealers; b++) {
                    for (int a = 0; a < b && couple < COUPLES; a++) {
                        if (has(putsOut[w], a) != has(putsOut[w], b)) {
                            told |= 1L << couple;
                        }
                        couple++;
                    }
                }
                couples[w] = told;
            }
        }

        long toldApart(int set) {
            long all = 0;
            for (int w = 0; w < WORDS; w++) {
                if (has(set, w)) {
                    all |= couples[w];
                }
            }
            return all;
        }

        int fewestTelling() {
            long[] told = sumsOfSets();
            int every = (1 << WORDS) - 1;
            long all = toldApart(every);
            int fewest = WORDS;
            told[0] = 0;
            for (int set = 0; set <= every && set < told.length; set++) {
                int w = Integer.numberOfTrailingZeros(set);
                if (w < WORDS) {
                    told[set] = told[set & set - 1] | couples[w];
                }
                if (told[set] == all) {
                    fewest = Math.min(fewest, Integer.bitCount(set));
                }
            }
            return fewest;
        }

        int bought(Room room, int w) {
            long[] sum = sumsOfSets();
            int unsold = room.unsold();
            int found = 0;
            long most = 0;
            sum[0] = 0;
            for (int set = 1; set <= unsold && set < sum.length; set++) {
                int lot = Integer.numberOfTrailingZeros(set);
                if ((set & ~unsold) != 0 || lot >= LOTS) {
                    continue;
                }
                // what it costs stands above bit 32, what it is worth below
                sum[set] = sum[set & set - 1] + ((long) (room.worth[lot] / 2) << 32) + room.worth[lot];
                long worth = sum[set] & 0xFFFFFFFFL;
                if (sum[set] >> 32 <= w && worth > most) {
                    most = worth;
                    found = set;
                }
            }
            return found;
        }

        /**
         * Who stands on one another's places forms rings, and a ring of n takes n - 1 swaps: so the places are
         * parted into as many sets as can be that hold within themselves all that belongs there.
         */
        int fewestSwaps(int[] breathed, int count) {
            long[] sum = sumsOfSets();
            int[] most = partsOfSets();
            int n = Math.max(0, Math.min(count, Math.min(BREATHS, breathed.length)));
            learnMisplaced(breathed, n);
            sum[0] = 0;
            most[0] = 0;
            for (int set = 1; set < 1 << n && set < most.length && set < sum.length; set++) {
                int low = Integer.numberOfTrailingZeros(set);
                sum[set] = sum[set & set - 1] + (low < n ? delta[low] : 0);
                int before = 0;
                for (int i = low; i < n; i++) {
                    if (has(set, i)) {
                        before = Math.max(before, most[set ^ 1 << i]);
                    }
                }
                most[set] = sum[set] == 0 ? before + 1 : before;
            }
            return n - most[(1 << n) - 1];
        }

        private void learnMisplaced(int[] breathed, int n) {
            sortInto(sorted, breathed, n);
            for (int i = 0; i < n; i++) {
                delta[i] = weight(sorted[i], n) - weight(breathed[i], n);
            }
        }

        // five bits a value: twelve more or less of one never reach the next
        private long weight(int value, int n) {
            for (int i = 0; i < n; i++) {
                if (sorted[i] == value) {
                    return 1L << 5 * i;
                }
            }
            return 0;
        }
    }

    /** Searches through orders: what is best behind a set of those ahead; the first order is then walked. */
    private static final class Orders {
        int size = 0;
        int total = 0;
        private final int[] order = new int[DEALERS];
        private final int[] members = new int[DEALERS];
        private final int[] against = new int[DEALERS];
        private final int[] cost = new int[SEATS * SEATS];
        private final int[] winners = new int[SIGHTINGS];
        private final int[] losers = new int[SIGHTINGS];
        private final int[] best = new int[SEATS << SEATS];

        int told(int what) {
            if (what == 0) {
                return total;
            }
            return what >= 10 && what - 10 < size && what - 10 < DEALERS ? order[what - 10] : NONE;
        }

        private void gather(int set) {
            size = 0;
            for (int d = 0; d < DEALERS; d++) {
                if (has(set, d)) {
                    members[size] = d;
                    size++;
                }
            }
        }

        private static int placeIn(int set, int dealer) {
            return Integer.bitCount(set & (1 << dealer) - 1);
        }

        void seat(int present, Lines pinches) {
            gather(present);
            size = Math.min(size, SEATS);
            total = 0;
            learnSeats(present, pinches);
            int full = (1 << size) - 1;
            for (int set = full; set > 0; set--) {
                for (int last = 0; last < size; last++) {
                    if (has(set, last)) {
                        int next = bestSeat(set, last);
                        best[set * SEATS + last] = next == NONE ? 0 : costBehind(set, last, next);
                    }
                }
            }
            int set = 0;
            int last = NONE;
            for (int i = 0; i < size; i++) {
                int next = bestSeat(set, last);
                if (next == NONE) {
                    return;
                }
                if (i == 0) {
                    total = costBehind(set, last, next);
                }
                order[i] = members[next];
                set |= 1 << next;
                last = next;
            }
        }

        // a way told twice is one way, so each is put down, not counted up
        private void learnSeats(int present, Lines pinches) {
            for (int i = 0; i < cost.length; i++) {
                cost[i] = 0;
            }
            for (int i = 0; i < pinches.count && i < LINES; i++) {
                int from = pinches.first[i];
                int to = pinches.second[i];
                int place = placeIn(present, from) * SEATS + placeIn(present, to);
                if (has(present, from) && has(present, to) && place < cost.length) {
                    cost[place] = 1;
                }
            }
        }

        private int costBehind(int set, int last, int next) {
            int between = last == NONE ? 0 : cost[last * SEATS + next] + cost[next * SEATS + last];
            return between + best[(set | 1 << next) * SEATS + next];
        }

        private int bestSeat(int set, int last) {
            int found = NONE;
            int least = 0;
            for (int next = 0; next < size; next++) {
                if (!has(set, next)) {
                    int its = costBehind(set, last, next);
                    if (found == NONE || its < least) {
                        found = next;
                        least = its;
                    }
                }
            }
            return found;
        }

        void rank(Thoughts thoughts) {
            int told = learnSightings(thoughts);
            int full = (1 << size) - 1;
            best[full] = 0;
            for (int set = full - 1; set >= 0; set--) {
                learnAgainst(told, set);
                int next = bestRank(set);
                best[set] = next == NONE ? 0 : against[next] + best[set | 1 << next];
            }
            total = best[0];
            int set = 0;
            for (int i = 0; i < size; i++) {
                learnAgainst(told, set);
                int next = bestRank(set);
                if (next == NONE) {
                    return;
                }
                order[i] = members[next];
                set |= 1 << next;
            }
        }

        private int learnSightings(Thoughts thoughts) {
            int told = Math.min(thoughts.sightings, SIGHTINGS);
            int toldOf = 0;
            for (int i = 0; i < told; i++) {
                toldOf |= 1 << thoughts.outlasting[i] | 1 << thoughts.outlasted[i];
            }
            gather(toldOf);
            for (int i = 0; i < told; i++) {
                winners[i] = placeIn(toldOf, thoughts.outlasting[i]);
                losers[i] = placeIn(toldOf, thoughts.outlasted[i]);
            }
            return told;
        }

        // whoever comes next goes against each that outlasted him and is not ahead of him
        private void learnAgainst(int told, int ahead) {
            for (int i = 0; i < size; i++) {
                against[i] = 0;
            }
            for (int i = 0; i < told; i++) {
                if (!has(ahead, winners[i]) && losers[i] < DEALERS) {
                    against[losers[i]]++;
                }
            }
        }

        private int bestRank(int set) {
            int found = NONE;
            int least = 0;
            for (int next = 0; next < size; next++) {
                if (!has(set, next)) {
                    int its = against[next] + best[set | 1 << next];
                    if (found == NONE || its < least) {
                        found = next;
                        least = its;
                    }
                }
            }
            return found;
        }

        void sellBest(Thoughts thoughts) {
            size = Math.max(0, Math.min(thoughts.brought, BROUGHT));
            int full = (1 << size) - 1;
            best[full] = 0;
            for (int set = full - 1; set >= 0; set--) {
                int tired = tiredBy(thoughts, set);
                int next = bestLot(thoughts, set, tired);
                best[set] = next == NONE ? 0 : gain(thoughts, set, tired, next);
            }
            total = best[0];
            int set = 0;
            for (int i = 0; i < size; i++) {
                int next = bestLot(thoughts, set, tiredBy(thoughts, set));
                if (next == NONE) {
                    return;
                }
                order[i] = next;
                set |= 1 << next;
            }
        }

        private int tiredBy(Thoughts thoughts, int ahead) {
            int sum = 0;
            for (int i = 0; i < size && i < BROUGHT; i++) {
                if (has(ahead, i)) {
                    sum += thoughts.tires[i];
                }
            }
            return sum;
        }

        private int gain(Thoughts thoughts, int set, int tired, int next) {
            return Math.max(0, thoughts.worth[next] - tired) + best[set | 1 << next];
        }

        private int bestLot(Thoughts thoughts, int set, int tired) {
            int found = NONE;
            int most = 0;
            for (int next = 0; next < size && next < BROUGHT; next++) {
                if (!has(set, next)) {
                    int its = gain(thoughts, set, tired, next);
                    if (found == NONE || its > most) {
                        found = next;
                        most = its;
                    }
                }
            }
            return found;
        }
    }

    /** Shares, palsies, couples, heaps and middles. */
    private static final class Figures {
        private final int[] nimbers = new int[LOTS + 1];
        private final int[] sorted = new int[DEALERS];

        Figures() {
            for (int heap = 1; heap <= LOTS; heap++) {
                int reached = 0;
                for (int left = heap / 2; left < heap; left++) {
                    reached |= 1 << nimbers[left];
                }
                nimbers[heap] = Integer.numberOfTrailingZeros(~reached);
            }
        }

        /** Orders are counted by who is ahead: with s of k ahead of i there are s! (k - 1 - s)! of them. */
        int share(Thoughts thoughts, int n, int i) {
            int k = Math.min(thoughts.claims, CLAIMS);
            if (i < 0 || i >= k) {
                return NONE;
            }
            int sum = 0;
            for (int ahead = 0; ahead < 1 << k; ahead++) {
                if (has(ahead, i)) {
                    continue;
                }
                int left = n;
                for (int c = 0; c < k; c++) {
                    left -= has(ahead, c) ? thoughts.claimed[c] : 0;
                }
                int members = Integer.bitCount(ahead);
                int had = Math.max(0, Math.min(left, thoughts.claimed[i]));
                sum += had * ordersOf(members) * ordersOf(k - 1 - members);
            }
            int orders = ordersOf(k);
            return orders > 0 ? sum / orders : NONE;
        }

        private static int ordersOf(int n) {
            int product = 1;
            for (int i = 2; i <= n && i <= CLAIMS; i++) {
                product *= i;
            }
            return product;
        }

        int palsy(int q, int winced, int calm) {
            long now = q;
            for (int i = 0; i < winced; i++) {
                now = weighed(now, 9, 4);
            }
            for (int i = 0; i < calm; i++) {
                now = weighed(now, 1, 6);
            }
            return (int) now;
        }

        private static long weighed(long q, int palsied, int sound) {
            long whole = q * palsied + (MILLION - q) * sound;
            return whole > 0 ? q * palsied * MILLION / whole : 0;
        }

        int wrongCouples(int[] row, int n) {
            int count = 0;
            for (int b = 1; b < n && b < row.length; b++) {
                for (int a = 0; a < b; a++) {
                    if (row[a] > row[b]) {
                        count++;
                    }
                }
            }
            return count;
        }

        private int nimber(int heap) {
            return within(heap, LOTS) ? nimbers[heap] : 0;
        }

        private int balance(Room room) {
            int all = 0;
            for (int d = 0; d < room.dealers && d < DEALERS; d++) {
                all ^= nimber(room.owned[d]);
            }
            return all;
        }

        int goodHeap(Room room) {
            for (int d = 0; d < room.dealers; d++) {
                if (goodTake(room, d) != NONE) {
                    return d;
                }
            }
            return NONE;
        }

        int goodTake(Room room, int dealer) {
            if (!room.isDealer(dealer)) {
                return NONE;
            }
            int heap = room.owned[dealer];
            int others = balance(room) ^ nimber(heap);
            for (int take = 1; take <= (heap + 1) / 2; take++) {
                if (nimber(heap - take) == others) {
                    return take;
                }
            }
            return NONE;
        }

        int median(int[] row, int count) {
            int n = Math.min(count, Math.min(DEALERS, row.length));
            if (n < 1) {
                return NONE;
            }
            sortInto(sorted, row, n);
            return sorted[(n - 1) / 2];
        }
    }
}
