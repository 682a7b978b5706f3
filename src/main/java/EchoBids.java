/** Auctions in which bids are heard some rounds late. The document's promises say what each call answers. */
public final class EchoBids {
    public static final int NO_SUCH = -1, BAD_VALUE = -2, BAD_TEXT = -3, TOO_MANY = -4, NOT_POSSIBLE = -5, NONE = -6;
    public static final int LAG = 0, STEP = 1, QUIET = 2, PRICE = 3;

    private static final int MOST_BIDDERS = 6, MOST_LOTS = 8;
    private static final int MOST_COINS = 9999, MOST_PLAN = 200, MOST_WORTH = 999;
    private static final int MOST_ROUNDS = 9999, MOST_PASSED = 99;
    private static final int SETTINGS = 4, HEARD_BACK = 6;
    private static final int[] LEAST = {0, 1, 1, 0};
    private static final int[] GREATEST = {5, 99, 9, 1};
    private static final int RUNS = 1, SOLD = 2, UNWANTED = 3;
    private static final int FORESEEN_END = 500, FORESEEN_SALES = 1000;
    private static final int PLAN_STEP = 10, GAIN_BASE = 100000;

    private final Hall now = new Hall();
    /** The hall in which what-ifs are played, made once so that a call makes nothing. */
    private final Hall trial = new Hall();
    private final History history = new History();
    private final Pad pad = new Pad();
    /** A slot is null until something is saved in it. */
    private final Hall[] slots = new Hall[2];

    public EchoBids() {
    }

    // ---- changes

    public int set(int setting, int value) {
        history.prepare(now);
        return history.settle(now.changeSetting(setting, value));
    }

    public int bidder(int purse, int plan) {
        history.prepare(now);
        return history.settle(now.addBidder(purse, plan));
    }

    public int plan(int bidder, int plan) {
        history.prepare(now);
        return history.settle(now.changePlan(bidder, plan));
    }

    public int lot(int worth) {
        history.prepare(now);
        return history.settle(now.addLot(worth));
    }

    public int bid(int bidder, int coins) {
        history.prepare(now);
        return history.settle(now.tellBid(bidder, coins));
    }

    public int pass(int rounds) {
        history.prepare(now);
        return history.settle(now.letPass(rounds));
    }

    // ---- what there is

    public int of(int bidder, int what) {
        Bidder who = now.bidderAt(bidder);
        if (who == null) {
            return NO_SUCH;
        }
        switch (what) {
            case 0: return who.purse;
            case 1: return who.plan;
            case 2: return who.bought;
            case 3: return who.paid;
            case 4: return who.worth;
            case 5: return who.bids;
            case 6: return who.shadows;
            case 7: return now.running == NONE ? 0 : now.believed(who).coins;
            case 8: return now.running == NONE ? NONE : now.believed(who).bidder;
            case 9: return who.told;
            default: return BAD_VALUE;
        }
    }

    public int ofLot(int lot, int what) {
        Lot piece = now.lotAt(lot);
        if (piece == null) {
            return NO_SUCH;
        }
        switch (what) {
            case 0: return piece.worth;
            case 1: return piece.state;
            case 2: return piece.state == SOLD ? piece.highest.bidder : NONE;
            case 3: return piece.state == SOLD ? piece.price : NONE;
            case 4: return piece.ran;
            case 5: return piece.highest.coins;
            case 6: return piece.highest.bidder;
            default: return BAD_VALUE;
        }
    }

    public int made(int ago, int what) {
        if (!now.recent.knows(ago)) {
            return NO_SUCH;
        }
        if (what < 0 || what >= Recent.WIDTH) {
            return BAD_VALUE;
        }
        return now.recent.at(ago, what);
    }

    public int count(int what) {
        switch (what) {
            case 0: return now.rounds;
            case 1: return now.bidderCount;
            case 2: return now.lotCount;
            case 3: return now.running;
            case 4: return now.lotsSold();
            case 5: return now.coinsPaid();
            case 6: return now.bidsMade();
            case 7: return now.shadowsMade();
            case 8: return now.settingAt(LAG);
            case 9: return now.settingAt(STEP);
            case 10: return now.settingAt(QUIET);
            case 11: return now.settingAt(PRICE);
            case 12: return pad.length;
            case 13: return history.kept;
            default: return BAD_VALUE;
        }
    }

    public int shadows() {
        int bids = now.bidsMade();
        if (bids == 0) {
            return 0;
        }
        return floatBits((float) now.shadowsMade() / (float) bids);
    }

    public long dear() {
        int worths = now.worthSold();
        if (worths == 0) {
            return 0L;
        }
        return doubleBits((double) now.coinsPaid() / (double) worths);
    }

    // ---- what if

    public int endsIn() {
        if (!now.hasLotsLeft()) {
            return NONE;
        }
        trial.copyFrom(now);
        for (int passed = 1; passed <= FORESEEN_END; passed++) {
            if (trial.playRound()) {
                return passed;
            }
        }
        return NONE;
    }

    public int ifLag(int lag) {
        trial.copyFrom(now);
        if (trial.changeSetting(LAG, lag) == BAD_VALUE) {
            return BAD_VALUE;
        }
        trial.playOut(FORESEEN_SALES);
        return trial.coinsPaid() - now.coinsPaid();
    }

    public int bestPlan(int bidder, int what) {
        if (now.bidderAt(bidder) == null) {
            return NO_SUCH;
        }
        if (what != 0 && what != 1) {
            return BAD_VALUE;
        }
        int best = 0;
        int most = gainWith(bidder, 0);
        for (int plan = PLAN_STEP; plan <= MOST_PLAN; plan += PLAN_STEP) {
            int gain = gainWith(bidder, plan);
            if (gain > most) {
                best = plan;
                most = gain;
            }
        }
        return what == 0 ? best : most + GAIN_BASE;
    }

    // ---- texts

    public int put(long characters) {
        return pad.append(characters);
    }

    public int wipe() {
        return pad.empty();
    }

    public int fault() {
        return pad.findFault();
    }

    public int carryOut() {
        if (pad.findFault() != NONE) {
            return BAD_TEXT;
        }
        history.prepare(now);
        pad.rewind();
        int done = 0;
        while (done < Pad.MOST && pad.readOrder() && carryOrder() >= 0) {
            done++;
        }
        pad.empty();
        return history.settle(done);
    }

    // ---- undo, saving

    public int undo() {
        return history.takeBack(now);
    }

    public int save(int slot) {
        if (slot < 0 || slot >= slots.length) {
            return BAD_VALUE;
        }
        Hall kept = slots[slot];
        if (kept == null) {
            kept = new Hall();
            slots[slot] = kept;
        }
        kept.copyFrom(now);
        return now.lotCount;
    }

    public int restore(int slot) {
        if (slot < 0 || slot >= slots.length) {
            return BAD_VALUE;
        }
        Hall kept = slots[slot];
        if (kept == null) {
            return NOT_POSSIBLE;
        }
        history.prepare(now);
        now.copyFrom(kept);
        return history.settle(now.lotCount);
    }

    private int gainWith(int bidder, int plan) {
        trial.copyFrom(now);
        Bidder who = trial.bidderAt(bidder);
        if (who == null) {
            return 0;
        }
        int before = who.worth - who.paid;
        who.plan = plan;
        trial.playOut(FORESEEN_SALES);
        return who.worth - who.paid - before;
    }

    private int carryOrder() {
        switch (pad.kind) {
            case '+': return now.addBidder(pad.first, pad.second);
            case 'l': return now.addLot(pad.first);
            case 'b': return now.tellBid(pad.first, pad.second);
            default: return now.letPass(pad.first);
        }
    }

    // The library that this program keeps to has no floatToIntBits and no doubleToLongBits:
    // doubling and halving are exact, so the bits can be counted out.

    private static int floatBits(float value) {
        if (value <= 0.0f) {
            return 0;
        }
        float rest = value;
        int exponent = 127;
        for (; rest < 1.0f && exponent > 1; exponent--) {
            rest *= 2.0f;
        }
        int fraction = (int) (rest * (float) (1 << 23)) & (1 << 23) - 1;
        return exponent << 23 | fraction;
    }

    private static long doubleBits(double value) {
        if (value <= 0.0) {
            return 0L;
        }
        double rest = value;
        long exponent = 1023L;
        for (; rest < 1.0 && exponent > 1L; exponent--) {
            rest *= 2.0;
        }
        for (; rest >= 2.0 && exponent < 2046L; exponent++) {
            rest /= 2.0;
        }
        long fraction = (long) (rest * (double) (1L << 52)) & (1L << 52) - 1L;
        return exponent << 52 | fraction;
    }

    private static final class Bidder {
        private int purse, plan, told;
        private int bought, paid, worth;
        private int bids, shadows;
        /** Its own highest bid for the lot that runs, or ran last. */
        private final Bid best = new Bid();

        void copyFrom(Bidder other) {
            purse = other.purse;
            plan = other.plan;
            told = other.told;
            bought = other.bought;
            paid = other.paid;
            worth = other.worth;
            bids = other.bids;
            shadows = other.shadows;
            best.copyFrom(other.best);
        }
    }

    private static final class Lot {
        private int worth, state, price, ran;
        /** Rounds since the latest one with a bid; without any bid, all rounds in which it ran. */
        private int still;
        private final Bid highest = new Bid();

        void copyFrom(Lot other) {
            worth = other.worth;
            state = other.state;
            price = other.price;
            ran = other.ran;
            still = other.still;
            highest.copyFrom(other.highest);
        }
    }

    /** A bid; one of nobody and of 0 coins stands for none. */
    private static final class Bid {
        private int bidder = NONE, coins, round;

        void write(int byBidder, int ofCoins, int inRound) {
            bidder = byBidder;
            coins = ofCoins;
            round = inRound;
        }

        void clear() {
            write(NONE, 0, 0);
        }

        void copyFrom(Bid other) {
            write(other.bidder, other.coins, other.round);
        }

        boolean isAbove(Bid other) {
            if (coins != other.coins) {
                return coins > other.coins;
            }
            if (round != other.round) {
                return round < other.round;
            }
            return bidder < other.bidder;
        }
    }

    /** The latest bids for one lot, in a ring. */
    private static final class Recent {
        private static final int KNOWN = 40, WIDTH = 4;

        private final int[] cells = new int[KNOWN * WIDTH];
        private int total;

        void copyFrom(Recent other) {
            System.arraycopy(other.cells, 0, cells, 0, KNOWN * WIDTH);
            total = other.total;
        }

        void clear() {
            total = 0;
        }

        void add(int bidder, int coins, int round, int shadow) {
            int place = Math.floorMod(total, KNOWN) * WIDTH;
            if (place >= 0 && place + WIDTH <= cells.length) {
                cells[place] = bidder;
                cells[place + 1] = coins;
                cells[place + 2] = round;
                cells[place + 3] = shadow;
                total++;
            }
        }

        boolean knows(int ago) {
            return ago >= 0 && ago < KNOWN && ago < total;
        }

        int at(int ago, int what) {
            int place = Math.floorMod(total - 1 - ago, KNOWN) * WIDTH + what;
            return place >= 0 && place < cells.length ? cells[place] : 0;
        }
    }

    /** All that undo and saving bring back. */
    private static final class Hall {
        private final int[] settings = {1, 5, 2, 0};
        private int bidderCount, lotCount;
        /** Lots that began so far: they are sold in their order, so this is the first one that waits. */
        private int begun;
        private int running = NONE;
        private int rounds;
        private final Bidder[] bidders = new Bidder[MOST_BIDDERS];
        private final Lot[] lots = new Lot[MOST_LOTS];
        /** The lot's highest bid behind each of the latest rounds, a ring: any LAG may be set between two of them. */
        private final Bid[] echoes = new Bid[HEARD_BACK];
        private final Recent recent = new Recent();

        Hall() {
            for (int at = 0; at < bidders.length; at++) {
                bidders[at] = new Bidder();
            }
            for (int at = 0; at < lots.length; at++) {
                lots[at] = new Lot();
            }
            for (int at = 0; at < echoes.length; at++) {
                echoes[at] = new Bid();
            }
        }

        void copyFrom(Hall other) {
            System.arraycopy(other.settings, 0, settings, 0, SETTINGS);
            bidderCount = other.bidderCount;
            lotCount = other.lotCount;
            begun = other.begun;
            running = other.running;
            rounds = other.rounds;
            copyRows(other);
            recent.copyFrom(other.recent);
        }

        // Rows that are not in use are copied too: whoever comes finds its row untouched.
        private void copyRows(Hall other) {
            for (int at = 0; at < bidders.length && at < other.bidders.length; at++) {
                if (bidders[at] != null && other.bidders[at] != null) {
                    bidders[at].copyFrom(other.bidders[at]);
                }
            }
            for (int at = 0; at < lots.length && at < other.lots.length; at++) {
                if (lots[at] != null && other.lots[at] != null) {
                    lots[at].copyFrom(other.lots[at]);
                }
            }
            for (int at = 0; at < echoes.length && at < other.echoes.length; at++) {
                if (echoes[at] != null && other.echoes[at] != null) {
                    echoes[at].copyFrom(other.echoes[at]);
                }
            }
        }

        Bidder bidderAt(int number) {
            return number >= 0 && number < bidderCount && number < bidders.length ? bidders[number] : null;
        }

        Lot lotAt(int number) {
            return number >= 0 && number < lotCount && number < lots.length ? lots[number] : null;
        }

        int settingAt(int setting) {
            return setting >= 0 && setting < settings.length ? settings[setting] : BAD_VALUE;
        }

        int changeSetting(int setting, int value) {
            if (setting < 0 || setting >= settings.length || setting >= LEAST.length || setting >= GREATEST.length) {
                return BAD_VALUE;
            }
            if (value < LEAST[setting] || value > GREATEST[setting]) {
                return BAD_VALUE;
            }
            int before = settings[setting];
            settings[setting] = value;
            return before;
        }

        int addBidder(int purse, int plan) {
            if (purse < 0 || purse > MOST_COINS || plan < 0 || plan > MOST_PLAN) {
                return BAD_VALUE;
            }
            if (bidderCount >= MOST_BIDDERS) {
                return TOO_MANY;
            }
            bidderCount++;
            Bidder who = bidderAt(bidderCount - 1);
            if (who != null) {
                who.purse = purse;
                who.plan = plan;
            }
            return bidderCount - 1;
        }

        int changePlan(int bidder, int plan) {
            Bidder who = bidderAt(bidder);
            if (who == null) {
                return NO_SUCH;
            }
            if (plan < 0 || plan > MOST_PLAN) {
                return BAD_VALUE;
            }
            int before = who.plan;
            who.plan = plan;
            return before;
        }

        int addLot(int worth) {
            if (worth < 0 || worth > MOST_WORTH) {
                return BAD_VALUE;
            }
            if (lotCount >= MOST_LOTS) {
                return TOO_MANY;
            }
            lotCount++;
            Lot lot = lotAt(lotCount - 1);
            if (lot != null) {
                lot.worth = worth;
            }
            return lotCount - 1;
        }

        int tellBid(int bidder, int coins) {
            Bidder who = bidderAt(bidder);
            if (who == null) {
                return NO_SUCH;
            }
            if (coins < 1 || coins > MOST_COINS) {
                return BAD_VALUE;
            }
            int before = who.told;
            who.told = coins;
            return before;
        }

        int letPass(int many) {
            if (many < 1 || many > MOST_PASSED) {
                return BAD_VALUE;
            }
            if (rounds + many > MOST_ROUNDS) {
                return NOT_POSSIBLE;
            }
            int ended = 0;
            for (int passed = 0; passed < many; passed++) {
                if (playRound()) {
                    ended++;
                }
            }
            return ended;
        }

        void playOut(int many) {
            for (int passed = 0; passed < many && hasLotsLeft(); passed++) {
                playRound();
            }
        }

        boolean hasLotsLeft() {
            return running != NONE || begun < lotCount;
        }

        /** Tells whether a lot ended behind the round. */
        boolean playRound() {
            if (running == NONE) {
                beginLot();
            }
            Lot lot = lotAt(running);
            boolean ended = false;
            if (lot != null) {
                takeBids(lot);
                echoRound(lot);
                ended = lot.still >= settingAt(QUIET) + settingAt(LAG);
                if (ended) {
                    endLot(lot);
                }
            }
            rounds++;
            return ended;
        }

        private void beginLot() {
            Lot lot = lotAt(begun);
            if (lot == null) {
                return;
            }
            lot.state = RUNS;
            running = begun;
            begun++;
            recent.clear();
            for (int at = 0; at < bidders.length; at++) {
                if (bidders[at] != null) {
                    bidders[at].best.clear();
                }
            }
            for (int at = 0; at < echoes.length; at++) {
                if (echoes[at] != null) {
                    echoes[at].clear();
                }
            }
        }

        private void takeBids(Lot lot) {
            int before = lot.highest.coins;
            boolean quiet = true;
            for (int number = 0; number < bidderCount; number++) {
                Bidder who = bidderAt(number);
                if (who != null) {
                    int coins = chooseBid(who, number, lot.worth, believed(who));
                    who.told = 0;
                    if (coins > 0) {
                        noteBid(who, number, coins, coins <= before ? 1 : 0);
                        quiet = false;
                    }
                }
            }
            lot.ran++;
            lot.still = quiet ? lot.still + 1 : 0;
        }

        /** Answers 0 for no bid. */
        private int chooseBid(Bidder who, int number, int worth, Bid belief) {
            if (who.told > 0 && who.told <= who.purse) {
                return who.told;
            }
            if (belief.bidder == number) {
                return 0;
            }
            int limit = Math.min(worth * who.plan / 100, who.purse);
            int wish = belief.coins + settingAt(STEP);
            return wish <= limit ? wish : 0;
        }

        // The bidder's own earlier bids count twice where they are heard, which changes nothing.
        Bid believed(Bidder who) {
            int heard = Math.floorMod(rounds - 1 - settingAt(LAG), HEARD_BACK);
            if (heard >= 0 && heard < echoes.length && echoes[heard] != null && echoes[heard].isAbove(who.best)) {
                return echoes[heard];
            }
            return who.best;
        }

        private void noteBid(Bidder who, int number, int coins, int shadow) {
            who.bids++;
            who.shadows += shadow;
            if (coins > who.best.coins) {
                who.best.write(number, coins, rounds);
            }
            recent.add(number, coins, rounds, shadow);
        }

        // Only behind the round: the ring's oldest place, which this one takes, is what is heard with the longest LAG.
        private void echoRound(Lot lot) {
            for (int number = 0; number < bidderCount; number++) {
                Bidder who = bidderAt(number);
                if (who != null && who.best.isAbove(lot.highest)) {
                    lot.highest.copyFrom(who.best);
                }
            }
            int place = Math.floorMod(rounds, HEARD_BACK);
            if (place >= 0 && place < echoes.length && echoes[place] != null) {
                echoes[place].copyFrom(lot.highest);
            }
        }

        private void endLot(Lot lot) {
            running = NONE;
            Bidder winner = bidderAt(lot.highest.bidder);
            if (winner == null) {
                lot.state = UNWANTED;
                return;
            }
            lot.state = SOLD;
            lot.price = priceOf(lot);
            winner.purse -= lot.price;
            winner.paid += lot.price;
            winner.worth += lot.worth;
            winner.bought |= 1 << begun - 1;
        }

        private int priceOf(Lot lot) {
            if (settingAt(PRICE) == 0) {
                return lot.highest.coins;
            }
            int second = 0;
            for (int number = 0; number < bidderCount; number++) {
                Bidder who = bidderAt(number);
                if (who != null && number != lot.highest.bidder) {
                    second = Math.max(second, who.best.coins);
                }
            }
            return Math.min(second + settingAt(STEP), lot.highest.coins);
        }

        int lotsSold() {
            int sold = 0;
            for (int number = 0; number < lotCount; number++) {
                Lot lot = lotAt(number);
                if (lot != null && lot.state == SOLD) {
                    sold++;
                }
            }
            return sold;
        }

        int coinsPaid() {
            int coins = 0;
            for (int number = 0; number < bidderCount; number++) {
                Bidder who = bidderAt(number);
                coins += who == null ? 0 : who.paid;
            }
            return coins;
        }

        int worthSold() {
            int worths = 0;
            for (int number = 0; number < bidderCount; number++) {
                Bidder who = bidderAt(number);
                worths += who == null ? 0 : who.worth;
            }
            return worths;
        }

        int bidsMade() {
            int bids = 0;
            for (int number = 0; number < bidderCount; number++) {
                Bidder who = bidderAt(number);
                bids += who == null ? 0 : who.bids;
            }
            return bids;
        }

        int shadowsMade() {
            int shadows = 0;
            for (int number = 0; number < bidderCount; number++) {
                Bidder who = bidderAt(number);
                shadows += who == null ? 0 : who.shadows;
            }
            return shadows;
        }
    }

    /** The states ahead of the latest changes, in a ring. */
    private static final class History {
        private static final int MOST = 6;

        /** One more than are kept: a change that fails may spoil the spare one, never the oldest. */
        private final Hall[] halls = new Hall[MOST + 1];
        private int next, kept;

        History() {
            for (int at = 0; at < halls.length; at++) {
                halls[at] = new Hall();
            }
        }

        void prepare(Hall now) {
            if (next >= 0 && next < halls.length && halls[next] != null) {
                halls[next].copyFrom(now);
            }
        }

        /** Keeps the state that was prepared unless the change answered an error, and passes that answer on. */
        int settle(int answer) {
            if (answer >= 0) {
                next = next + 1 < halls.length ? next + 1 : 0;
                kept = Math.min(kept + 1, MOST);
            }
            return answer;
        }

        int takeBack(Hall now) {
            if (kept == 0) {
                return NOT_POSSIBLE;
            }
            next = next > 0 ? next - 1 : halls.length - 1;
            if (next >= 0 && next < halls.length && halls[next] != null) {
                now.copyFrom(halls[next]);
            }
            kept--;
            return kept;
        }
    }

    /** The pad's text, and a reader that goes over its orders. */
    private static final class Pad {
        private static final int MOST = 80, MOST_NUMBER = 9999;

        private final int[] signs = new int[MOST];
        private int length;
        /** Where the reader stands; once it is stuck, the fault. */
        private int at;
        private boolean stuck, more;
        /** The order that was read last. */
        private int kind, first, second;

        int append(long characters) {
            int many = countSigns(characters);
            if (many == 0) {
                return BAD_VALUE;
            }
            if (length + many > MOST) {
                return TOO_MANY;
            }
            for (int back = many - 1; back >= 0; back--) {
                if (length >= 0 && length < signs.length) {
                    signs[length] = (int) (characters >>> 8 * back & 255L);
                    length++;
                }
            }
            return length;
        }

        /** Answers 0 if they are none, or not fit for the pad. */
        private static int countSigns(long characters) {
            int many = 0;
            long rest = characters;
            while (many < 8 && rest != 0L) {
                long sign = rest & 255L;
                if (sign < 33L || sign > 126L) {
                    return 0;
                }
                many++;
                rest >>>= 8;
            }
            return many;
        }

        int empty() {
            int before = length;
            length = 0;
            return before;
        }

        int findFault() {
            rewind();
            int orders = 0;
            while (orders < MOST && readOrder()) {
                orders++;
            }
            return stuck ? at : NONE;
        }

        void rewind() {
            at = 0;
            stuck = false;
            more = true;
        }

        /** Reads the next order and the sign behind it; false at the text's end or at a fault. */
        boolean readOrder() {
            if (stuck || !more) {
                return false;
            }
            kind = sign();
            switch (kind) {
                case '+':
                    at++;
                    first = readNumber();
                    expect('*');
                    second = readNumber();
                    break;
                case 'b':
                    at++;
                    first = readDigit();
                    expect('=');
                    second = readNumber();
                    break;
                case 'l':
                case 't':
                    at++;
                    first = readNumber();
                    break;
                default:
                    stuck = true;
            }
            more = at < length;
            if (more) {
                expect(';');
            }
            return !stuck;
        }

        /** Answers 0, which is no sign of a text, behind the end. */
        private int sign() {
            return at >= 0 && at < length && at < signs.length ? signs[at] : 0;
        }

        private boolean atDigit() {
            int sign = sign();
            return sign >= '0' && sign <= '9';
        }

        private void expect(int sign) {
            if (!stuck && sign() == sign) {
                at++;
            } else {
                stuck = true;
            }
        }

        private int readDigit() {
            if (stuck || !atDigit()) {
                stuck = true;
                return 0;
            }
            int digit = sign() - '0';
            at++;
            return digit;
        }

        private int readNumber() {
            int number = readDigit();
            for (int digits = 1; digits < MOST && !stuck && atDigit(); digits++) {
                int longer = number * 10 + sign() - '0';
                if (number == 0 || longer > MOST_NUMBER) {
                    stuck = true;
                } else {
                    number = longer;
                    at++;
                }
            }
            return number;
        }
    }
}
