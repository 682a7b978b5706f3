import java.util.ArrayDeque;
import java.util.ArrayList;
import java.util.List;
import java.util.regex.Matcher;
import java.util.regex.Pattern;

/**
 * The document's words once more, slowly: every bid is kept, and every question goes over all of them.
 * The random runs compare EchoBids with it.
 */
final class Naive {
    static final int NO_SUCH = -1, BAD_VALUE = -2, BAD_TEXT = -3, TOO_MANY = -4, NOT_POSSIBLE = -5, NONE = -6;
    private static final String NUMBER = "(0|[1-9][0-9]{0,3})";
    private static final String ORDER =
        "(\\+" + NUMBER + "\\*" + NUMBER + "|l" + NUMBER + "|b[0-9]=" + NUMBER + "|t" + NUMBER + ")";
    private static final Pattern TEXT = Pattern.compile(ORDER + "(;" + ORDER + ")*");

    private record Offer(int lot, int round, int bidder, int coins, boolean shadow) {
        boolean higherThan(Offer other) {
            if (coins != other.coins) {
                return coins > other.coins;
            }
            return round != other.round ? round < other.round : bidder < other.bidder;
        }
    }

    private static final class World {
        int[] settings = {1, 5, 2, 0};
        int rounds = 0;
        List<int[]> bidders = new ArrayList<>(); // first purse, plan, told
        List<int[]> lots = new ArrayList<>(); // worth, state, first round, rounds, buyer, price
        List<Offer> offers = new ArrayList<>();

        World copy() {
            World other = new World();
            other.settings = settings.clone();
            other.rounds = rounds;
            for (int[] row : bidders) {
                other.bidders.add(row.clone());
            }
            for (int[] row : lots) {
                other.lots.add(row.clone());
            }
            other.offers = new ArrayList<>(offers);
            return other;
        }

        int running() {
            return firstIn(1);
        }

        int firstIn(int state) {
            for (int i = 0; i < lots.size(); i++) {
                if (lots.get(i)[1] == state) {
                    return i;
                }
            }
            return NONE;
        }

        int lastBegun() {
            int last = NONE;
            for (int i = 0; i < lots.size(); i++) {
                if (lots.get(i)[1] != 0) {
                    last = i;
                }
            }
            return last;
        }

        int paid(int bidder) {
            int sum = 0;
            for (int[] lot : lots) {
                sum += lot[1] == 2 && lot[4] == bidder ? lot[5] : 0;
            }
            return sum;
        }

        int worth(int bidder) {
            int sum = 0;
            for (int[] lot : lots) {
                sum += lot[1] == 2 && lot[4] == bidder ? lot[0] : 0;
            }
            return sum;
        }

        int paidByAll() {
            int sum = 0;
            for (int b = 0; b < bidders.size(); b++) {
                sum += paid(b);
            }
            return sum;
        }

        int purse(int bidder) {
            return bidders.get(bidder)[0] - paid(bidder);
        }

        Offer highest(int lot) {
            Offer best = null;
            for (Offer offer : offers) {
                if (offer.lot == lot && (best == null || offer.higherThan(best))) {
                    best = offer;
                }
            }
            return best;
        }

        Offer belief(int bidder, int lot) {
            Offer best = null;
            for (Offer offer : offers) {
                boolean known = offer.bidder == bidder || rounds - offer.round > settings[0];
                if (offer.lot == lot && known && (best == null || offer.higherThan(best))) {
                    best = offer;
                }
            }
            return best;
        }

        int wish(int bidder, int lot) {
            int told = bidders.get(bidder)[2];
            if (told != 0 && told <= purse(bidder)) {
                return told;
            }
            int limit = Math.min(lots.get(lot)[0] * bidders.get(bidder)[1] / 100, purse(bidder));
            Offer belief = belief(bidder, lot);
            int coins;
            if (belief == null) {
                coins = settings[1];
            } else if (belief.bidder == bidder) {
                return 0;
            } else {
                coins = belief.coins + settings[1];
            }
            return coins <= limit ? coins : 0;
        }

        boolean round() {
            if (running() == NONE && firstIn(0) != NONE) {
                int[] lot = lots.get(firstIn(0));
                lot[1] = 1;
                lot[2] = rounds;
            }
            int lot = running();
            boolean ends = false;
            if (lot != NONE) {
                List<Offer> made = new ArrayList<>();
                Offer ahead = highest(lot);
                for (int b = 0; b < bidders.size(); b++) {
                    int coins = wish(b, lot);
                    if (coins > 0) {
                        made.add(new Offer(lot, rounds, b, coins, ahead != null && coins <= ahead.coins));
                    }
                }
                offers.addAll(made);
                for (int[] row : bidders) {
                    row[2] = 0;
                }
                lots.get(lot)[3]++;
                ends = behind(lot);
            }
            rounds++;
            return ends;
        }

        private boolean behind(int lot) {
            int[] row = lots.get(lot);
            int latest = row[2] - 1;
            for (Offer offer : offers) {
                latest = offer.lot == lot ? Math.max(latest, offer.round) : latest;
            }
            if (rounds - latest < settings[2] + settings[0]) {
                return false;
            }
            Offer top = highest(lot);
            row[1] = top == null ? 3 : 2;
            if (top != null) {
                int second = 0;
                for (Offer offer : offers) {
                    second = offer.lot == lot && offer.bidder != top.bidder ? Math.max(second, offer.coins) : second;
                }
                row[5] = settings[3] == 0 ? top.coins : Math.min(top.coins, second + settings[1]);
                row[4] = top.bidder;
            }
            return true;
        }

        boolean lotsLeft() {
            return running() != NONE || firstIn(0) != NONE;
        }

        void playOut() {
            for (int k = 0; k < 1000 && lotsLeft(); k++) {
                round();
            }
        }
    }

    private World world = new World();
    private final ArrayDeque<World> history = new ArrayDeque<>();
    private final World[] slots = new World[2];
    private String pad = "";

    private int change(World before, int answer) {
        if (answer >= 0) {
            history.addLast(before);
            if (history.size() > 6) {
                history.removeFirst();
            }
        }
        return answer;
    }

    private static boolean in(int value, int least, int most) {
        return value >= least && value <= most;
    }

    private boolean isBidder(int bidder) {
        return in(bidder, 0, world.bidders.size() - 1);
    }

    int set(int setting, int value) {
        int[][] ranges = {{0, 5}, {1, 99}, {1, 9}, {0, 1}};
        if (!in(setting, 0, 3) || !in(value, ranges[setting][0], ranges[setting][1])) {
            return BAD_VALUE;
        }
        World before = world.copy();
        world.settings[setting] = value;
        return change(before, before.settings[setting]);
    }

    int bidder(int purse, int plan) {
        World before = world.copy();
        return change(before, comes(purse, plan));
    }

    private int comes(int purse, int plan) {
        if (!in(purse, 0, 9999) || !in(plan, 0, 200)) {
            return BAD_VALUE;
        }
        if (world.bidders.size() == 6) {
            return TOO_MANY;
        }
        world.bidders.add(new int[] {purse, plan, 0});
        return world.bidders.size() - 1;
    }

    int plan(int bidder, int plan) {
        if (!isBidder(bidder)) {
            return NO_SUCH;
        }
        if (!in(plan, 0, 200)) {
            return BAD_VALUE;
        }
        World before = world.copy();
        world.bidders.get(bidder)[1] = plan;
        return change(before, before.bidders.get(bidder)[1]);
    }

    int lot(int worth) {
        World before = world.copy();
        return change(before, lotComes(worth));
    }

    private int lotComes(int worth) {
        if (!in(worth, 0, 999)) {
            return BAD_VALUE;
        }
        if (world.lots.size() == 8) {
            return TOO_MANY;
        }
        world.lots.add(new int[] {worth, 0, 0, 0, NONE, NONE});
        return world.lots.size() - 1;
    }

    int bid(int bidder, int coins) {
        World before = world.copy();
        return change(before, tell(bidder, coins));
    }

    private int tell(int bidder, int coins) {
        if (!isBidder(bidder)) {
            return NO_SUCH;
        }
        if (!in(coins, 1, 9999)) {
            return BAD_VALUE;
        }
        int was = world.bidders.get(bidder)[2];
        world.bidders.get(bidder)[2] = coins;
        return was;
    }

    int pass(int rounds) {
        World before = world.copy();
        return change(before, go(rounds));
    }

    private int go(int rounds) {
        if (!in(rounds, 1, 99)) {
            return BAD_VALUE;
        }
        if (world.rounds + rounds > 9999) {
            return NOT_POSSIBLE;
        }
        int ended = 0;
        for (int k = 0; k < rounds; k++) {
            ended += world.round() ? 1 : 0;
        }
        return ended;
    }

    private int bids(int bidder, boolean shadowsAlone) {
        int sum = 0;
        for (Offer offer : world.offers) {
            if ((bidder == NONE || offer.bidder == bidder) && (offer.shadow || !shadowsAlone)) {
                sum++;
            }
        }
        return sum;
    }

    int of(int bidder, int what) {
        if (!isBidder(bidder)) {
            return NO_SUCH;
        }
        if (!in(what, 0, 9)) {
            return BAD_VALUE;
        }
        int bought = 0;
        for (int i = 0; i < world.lots.size(); i++) {
            bought |= world.lots.get(i)[4] == bidder ? 1 << i : 0;
        }
        Offer belief = world.running() == NONE ? null : world.belief(bidder, world.running());
        int[] row = world.bidders.get(bidder);
        int[] answers = {world.purse(bidder), row[1], bought, world.paid(bidder), world.worth(bidder),
            bids(bidder, false), bids(bidder, true), belief == null ? 0 : belief.coins,
            belief == null ? NONE : belief.bidder, row[2]};
        return answers[what];
    }

    int ofLot(int lot, int what) {
        if (!in(lot, 0, world.lots.size() - 1)) {
            return NO_SUCH;
        }
        if (!in(what, 0, 6)) {
            return BAD_VALUE;
        }
        int[] row = world.lots.get(lot);
        Offer top = world.highest(lot);
        int[] answers = {row[0], row[1], row[4], row[5], row[3], top == null ? 0 : top.coins,
            top == null ? NONE : top.bidder};
        return answers[what];
    }

    int made(int ago, int what) {
        List<Offer> known = new ArrayList<>();
        for (int i = world.offers.size() - 1; i >= 0 && known.size() < 40; i--) {
            if (world.offers.get(i).lot == world.lastBegun()) {
                known.add(world.offers.get(i));
            }
        }
        if (!in(ago, 0, known.size() - 1)) {
            return NO_SUCH;
        }
        if (!in(what, 0, 3)) {
            return BAD_VALUE;
        }
        Offer offer = known.get(ago);
        return new int[] {offer.bidder, offer.coins, offer.round, offer.shadow ? 1 : 0}[what];
    }

    int count(int what) {
        if (!in(what, 0, 13)) {
            return BAD_VALUE;
        }
        int sold = 0;
        for (int[] lot : world.lots) {
            sold += lot[1] == 2 ? 1 : 0;
        }
        int[] answers = {world.rounds, world.bidders.size(), world.lots.size(), world.running(), sold,
            world.paidByAll(), bids(NONE, false), bids(NONE, true), world.settings[0], world.settings[1],
            world.settings[2], world.settings[3], pad.length(), history.size()};
        return answers[what];
    }

    int shadows() {
        int bids = bids(NONE, false);
        return bids == 0 ? Float.floatToIntBits(0.0f) : Float.floatToIntBits((float) bids(NONE, true) / (float) bids);
    }

    long dear() {
        double prices = 0;
        double worths = 0;
        for (int[] lot : world.lots) {
            prices += lot[1] == 2 ? lot[5] : 0;
            worths += lot[1] == 2 ? lot[0] : 0;
        }
        return Double.doubleToLongBits(worths == 0 ? 0.0 : prices / worths);
    }

    int endsIn() {
        if (!world.lotsLeft()) {
            return NONE;
        }
        World trial = world.copy();
        for (int k = 1; k <= 500; k++) {
            if (trial.round()) {
                return k;
            }
        }
        return NONE;
    }

    int ifLag(int lag) {
        if (!in(lag, 0, 5)) {
            return BAD_VALUE;
        }
        World trial = world.copy();
        trial.settings[0] = lag;
        trial.playOut();
        return trial.paidByAll() - world.paidByAll();
    }

    int bestPlan(int bidder, int what) {
        if (!isBidder(bidder)) {
            return NO_SUCH;
        }
        if (!in(what, 0, 1)) {
            return BAD_VALUE;
        }
        int best = 0;
        int most = Integer.MIN_VALUE;
        for (int plan = 0; plan <= 200; plan += 10) {
            World trial = world.copy();
            trial.bidders.get(bidder)[1] = plan;
            trial.playOut();
            int gain = trial.worth(bidder) - world.worth(bidder) - trial.paid(bidder) + world.paid(bidder);
            if (gain > most) {
                most = gain;
                best = plan;
            }
        }
        return what == 0 ? best : most + 100000;
    }

    int put(long characters) {
        StringBuilder text = new StringBuilder();
        boolean over = false;
        for (int k = 0; k < 8; k++) {
            int code = (int) (characters >>> 8 * k) & 255;
            if (code == 0) {
                over = true;
            } else if (over || !in(code, 33, 126)) {
                return BAD_VALUE;
            } else {
                text.insert(0, (char) code);
            }
        }
        if (text.length() == 0) {
            return BAD_VALUE;
        }
        if (pad.length() + text.length() > 80) {
            return TOO_MANY;
        }
        pad += text;
        return pad.length();
    }

    int wipe() {
        int length = pad.length();
        pad = "";
        return length;
    }

    int fault() {
        for (int k = 1; k <= pad.length(); k++) {
            Matcher matcher = TEXT.matcher(pad.substring(0, k));
            if (!matcher.matches() && !matcher.hitEnd()) {
                return k - 1;
            }
        }
        return TEXT.matcher(pad).matches() ? NONE : pad.length();
    }

    int carryOut() {
        if (fault() != NONE) {
            return BAD_TEXT;
        }
        World before = world.copy();
        int done = 0;
        for (String order : pad.split(";")) {
            if (carry(order) < 0) {
                break;
            }
            done++;
        }
        pad = "";
        return change(before, done);
    }

    private int carry(String order) {
        String[] numbers = order.substring(1).split("[*=]");
        int first = Integer.parseInt(numbers[0]);
        switch (order.charAt(0)) {
            case '+': return comes(first, Integer.parseInt(numbers[1]));
            case 'l': return lotComes(first);
            case 'b': return tell(first, Integer.parseInt(numbers[1]));
            default: return go(first);
        }
    }

    int undo() {
        if (history.isEmpty()) {
            return NOT_POSSIBLE;
        }
        world = history.removeLast();
        return history.size();
    }

    int save(int slot) {
        if (!in(slot, 0, 1)) {
            return BAD_VALUE;
        }
        slots[slot] = world.copy();
        return world.lots.size();
    }

    int restore(int slot) {
        if (!in(slot, 0, 1)) {
            return BAD_VALUE;
        }
        if (slots[slot] == null) {
            return NOT_POSSIBLE;
        }
        World before = world;
        world = slots[slot].copy();
        return change(before, world.lots.size());
    }
}
