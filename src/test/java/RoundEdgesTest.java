/** The edges that the document's sections "Terms" and "Rounds" name, a test for each sentence. */
public final class RoundEdgesTest {
    private static final Check CHECK = new Check();
    private static final int NONE = EchoBids.NONE, NO_SUCH = EchoBids.NO_SUCH, TOO_MANY = EchoBids.TOO_MANY;

    private static void due(String call, long got, long want) {
        CHECK.due(call, got, want);
    }

    /** The bids that one bidder's plan brings in the first round of a lot. */
    private static int planned(int step, int purse, int plan, int worth) {
        EchoBids x = Halls.hall(0, step, 1, 0);
        x.bidder(purse, plan);
        x.lot(worth);
        x.pass(1);
        return x.count(6);
    }

    /** What bidder 1 bids, with STEP 5 and LAG 0, behind a bid of bidder 0 (0 for nothing). */
    private static int answered(int coins, int purse, int plan) {
        EchoBids x = Halls.hall(0, 5, 9, 0);
        x.bidder(9999, 0);
        x.bidder(purse, plan);
        x.lot(100);
        x.bid(0, coins);
        x.pass(1);
        int before = x.of(1, 5);
        x.pass(1);
        return x.of(1, 5) == before ? 0 : x.made(0, 1);
    }

    private static void conventions() {
        CHECK.part("divisions are rounded down");
        due("33 * 10 / 100, STEP 3", planned(3, 9999, 10, 33), 1);
        due("33 * 10 / 100, STEP 4", planned(4, 9999, 10, 33), 0);
        due("99 * 99 / 100, STEP 98", planned(98, 9999, 99, 99), 1);
        due("99 * 99 / 100, STEP 99", planned(99, 9999, 99, 99), 0);
        due("1 * 99 / 100, STEP 1", planned(1, 9999, 99, 1), 0);
        due("1 * 100 / 100, STEP 1", planned(1, 9999, 100, 1), 1);
        due("1 * 199 / 100, STEP 2", planned(2, 9999, 199, 1), 0);
        CHECK.part("sets of lots are bit masks");
        EchoBids x = Halls.planless(2, 8);
        for (int lot = 0; lot < 8; lot++) {
            x.bid(lot == 3 ? 1 : 0, 10);
            x.pass(2);
        }
        due("all but lot 3", x.of(0, 2), 247);
        due("lot 3", x.of(1, 2), 8);
        x = Halls.planless(1, 8);
        x.pass(7);
        x.bid(0, 1);
        x.pass(2);
        due("the last lot alone", x.of(0, 2), 128);
        due("no lot", Halls.planless(1, 8).of(0, 2), 0);
        CHECK.part("everything is numbered from 0");
        x = new EchoBids();
        due("bidder", x.bidder(1, 1), 0);
        due("lot", x.lot(1), 0);
        x.bid(0, 1);
        x.pass(1);
        due("round", x.made(0, 2), 0);
    }

    private static void settings() {
        CHECK.part("the first values");
        EchoBids x = new EchoBids();
        x.bidder(100, 0);
        x.bidder(100, 100);
        x.lot(50);
        x.bid(0, 30);
        x.pass(1);
        due("STEP 5", x.made(0, 1), 5);
        due("LAG 1: not heard one round on", x.of(1, 7), 5);
        x.plan(1, 0);
        x.pass(1);
        due("LAG 1: heard two rounds on", x.of(1, 7), 30);
        due("LAG 1 and QUIET 2: not two rounds behind the bid", x.pass(1), 0);
        due("LAG 1 and QUIET 2: three rounds behind the bid", x.pass(1), 1);
        due("PRICE 0", x.ofLot(0, 3), 30);
        CHECK.part("the least and the greatest value of each setting");
        int[] least = {0, 1, 1, 0};
        int[] greatest = {5, 99, 9, 1};
        int[] first = {1, 5, 2, 0};
        for (int s = 0; s < 4; s++) {
            x = new EchoBids();
            due("least of " + s, x.set(s, least[s]), first[s]);
            due("it stands", x.count(8 + s), least[s]);
            due("greatest of " + s, x.set(s, greatest[s]), least[s]);
            due("it stands", x.count(8 + s), greatest[s]);
            due("the same once more", x.set(s, greatest[s]), greatest[s]);
            for (int other = 0; other < 4; other++) {
                due("no other changed", x.count(8 + other), other == s ? greatest[s] : first[other]);
            }
        }
        due("STEP 1 is bid", planned(1, 1, 100, 1), 1);
        due("STEP 99 is bid", planned(99, 99, 100, 99), 1);
        CHECK.part("a setting holds from the next round on");
        x = Halls.hall(0, 5, 9, 0);
        x.bidder(99, 100);
        x.bidder(99, 0);
        x.lot(90);
        x.pass(1);
        x.set(EchoBids.STEP, 50);
        due("what was bid stays", x.ofLot(0, 5), 5);
        x.bid(1, 6);
        x.pass(1);
        x.pass(1);
        due("6 and 50", x.ofLot(0, 5), 56);
    }

    private static void sixAndEight() {
        CHECK.part("up to 6 bidders");
        EchoBids x = Halls.hall(0, 5, 9, 0);
        for (int b = 0; b < 6; b++) {
            due("bidder " + b, x.bidder(99, 100), b);
        }
        due("a seventh", x.bidder(99, 100), TOO_MANY);
        x.lot(50);
        x.pass(1);
        due("all of them bid", x.count(6), 6);
        for (int ago = 0; ago < 6; ago++) {
            due("the greatest number first", x.made(ago, 0), 5 - ago);
        }
        due("no seventh bid", x.made(6, 0), NO_SUCH);
        due("the highest is the lowest bidder's", x.ofLot(0, 6), 0);
        x.bid(5, 60);
        x.pass(10);
        due("the last bidder buys", x.ofLot(0, 2), 5);
        CHECK.part("up to 8 lots, one after the other");
        x = Halls.hall(0, 5, 1, 0);
        x.bidder(9999, 100);
        for (int l = 0; l < 8; l++) {
            due("lot " + l, x.lot(10 + l), l);
        }
        due("a ninth", x.lot(10), TOO_MANY);
        due("pass(16)", x.pass(16), 8);
        due("all of them are bought", x.of(0, 2), 255);
        due("paid", x.of(0, 3), 40);
        due("worth", x.of(0, 4), 108);
        due("sold", x.count(4), 8);
        due("none is left", x.endsIn(), NONE);
        due("a ninth is too many for ever", x.lot(10), TOO_MANY);
    }

    private static void pursesAndPlans() {
        CHECK.part("a purse of 0 to 9999 coins");
        due("a purse of 0 brings no bid", planned(1, 0, 200, 999), 0);
        due("a purse of 1 brings a bid of 1", planned(1, 1, 200, 999), 1);
        EchoBids x = Halls.planless(1, 2);
        x.bid(0, 9999);
        x.pass(2);
        due("a price of 9999", x.ofLot(0, 3), 9999);
        due("the purse is empty", x.of(0, 0), 0);
        x.bid(0, 1);
        x.pass(1);
        due("1 is above the empty purse", x.ofLot(1, 1), 3);
        CHECK.part("a plan of 0 to 200");
        due("a plan of 0 brings no bid", planned(1, 9999, 0, 999), 0);
        due("a plan of 200 brings a bid of twice the worth", planned(98, 9999, 200, 49), 1);
        due("and of no more", planned(99, 9999, 200, 49), 0);
        due("200 percent of 100", answered(195, 9999, 200), 200);
        due("above 200 percent of 100", answered(196, 9999, 200), 0);
        CHECK.part("a worth of 0 to 999");
        due("a worth of 0 brings no bid", planned(1, 9999, 200, 0), 0);
        x = Halls.planless(1, 1);
        due("a worth of 0", x.lot(0), 1);
        due("a worth of 999", x.lot(999), 2);
        x.pass(1);
        x.bid(0, 3);
        x.pass(2);
        due("a lot of no worth is sold", x.ofLot(1, 1), 2);
        due("its worth", x.of(0, 4), 0);
        x.bid(0, 3);
        x.pass(2);
        due("a lot of 999 is sold", x.of(0, 4), 999);
    }

    private static void waiting() {
        CHECK.part("a lot waits until a round begins");
        EchoBids x = Halls.planless(1, 0);
        x.pass(3);
        x.lot(5);
        x.lot(6);
        due("it waits", x.ofLot(0, 1), 0);
        due("none runs", x.count(3), NONE);
        due("no round yet", x.ofLot(0, 4), 0);
        x.set(EchoBids.QUIET, 2);
        x.pass(1);
        due("it runs", x.ofLot(0, 1), 1);
        due("the first one that waits", x.count(3), 0);
        due("the other one waits", x.ofLot(1, 1), 0);
        x.pass(1);
        due("not wanted", x.ofLot(0, 1), 3);
        due("none runs", x.count(3), NONE);
        due("the other one still waits", x.ofLot(1, 1), 0);
        x.pass(1);
        due("it runs", x.count(3), 1);
        due("one round", x.ofLot(1, 4), 1);
        CHECK.part("without a lot that runs or waits a round passes all the same");
        x = Halls.planless(1, 0);
        x.bid(0, 7);
        due("pass(99)", x.pass(99), 0);
        due("rounds", x.count(0), 99);
        due("what is told stays told", x.of(0, 9), 7);
        due("no bid", x.count(6), 0);
        x.lot(1);
        x.pass(1);
        due("it is bid in the next round with a lot", x.made(0, 2), 99);
    }

    private static void highest() {
        CHECK.part("the highest bid is the one of the most coins");
        EchoBids x = Halls.planless(3, 1);
        x.set(EchoBids.QUIET, 9);
        x.bid(0, 29);
        x.bid(2, 30);
        x.bid(1, 30);
        x.pass(1);
        due("coins", x.ofLot(0, 5), 30);
        CHECK.part("of several of a round the one of the lowest bidder");
        due("whose", x.ofLot(0, 6), 1);
        CHECK.part("of several the one of the earliest round");
        x.bid(0, 30);
        x.pass(1);
        due("whose", x.ofLot(0, 6), 1);
        x.bid(2, 31);
        x.pass(1);
        due("one more coin", x.ofLot(0, 6), 2);
        x.bid(0, 30);
        x.pass(10);
        due("who buys", x.ofLot(0, 2), 2);
        due("without a bid", Halls.planless(1, 1).ofLot(0, 5), 0);
        due("whose, without a bid", Halls.planless(1, 1).ofLot(0, 6), NONE);
    }

    /** A bid of 20 by bidder 1: when does bidder 0 hear it? */
    private static void heard() {
        CHECK.part("others hear what was made more than LAG rounds ahead; its own it believes at once");
        for (int lag = 0; lag <= 5; lag++) {
            for (int ahead = 1; ahead <= 7; ahead++) {
                EchoBids x = Halls.planless(2, 1);
                x.set(EchoBids.LAG, lag);
                x.set(EchoBids.QUIET, 9);
                x.bid(1, 20);
                x.pass(ahead);
                due("LAG " + lag + ", " + ahead + " rounds on", x.of(0, 7), ahead > lag ? 20 : 0);
                due("whose, LAG " + lag + ", " + ahead + " rounds on", x.of(0, 8), ahead > lag ? 1 : NONE);
                due("its own, LAG " + lag + ", " + ahead + " rounds on", x.of(1, 7), 20);
                due("whose its own is", x.of(1, 8), 1);
            }
        }
    }

    private static void believed() {
        CHECK.part("the highest one among its own and those that it hears");
        EchoBids x = Halls.planless(3, 1);
        x.set(EchoBids.QUIET, 9);
        x.bid(0, 20);
        x.pass(1);
        x.bid(1, 19);
        x.pass(1);
        due("the other's is higher", x.of(1, 7), 20);
        due("its own is higher", x.of(0, 8), 0);
        x.bid(1, 20);
        x.pass(1);
        due("of two alike the earlier one", x.of(1, 8), 0);
        x.bid(1, 21);
        x.pass(1);
        due("its own is one higher", x.of(1, 8), 1);
        due("the other hears it", x.of(0, 8), 1);
        x.set(EchoBids.LAG, 1);
        due("with LAG 1 it does not", x.of(0, 8), 0);
        due("who made none hears the same", x.of(2, 7), 20);
        CHECK.part("alike in the same round");
        x = Halls.planless(2, 1);
        x.set(EchoBids.QUIET, 9);
        x.bid(0, 20);
        x.bid(1, 20);
        x.pass(1);
        due("the lowest bidder believes in its own", x.of(0, 8), 0);
        due("the other one too in that of the lowest", x.of(1, 8), 0);
        CHECK.part("no bid is believed in");
        due("without a lot, coins", Halls.planless(1, 0).of(0, 7), 0);
        due("without a lot, whose", Halls.planless(1, 0).of(0, 8), NONE);
        due("a lot waits, coins", Halls.planless(1, 1).of(0, 7), 0);
        due("a lot waits, whose", Halls.planless(1, 1).of(0, 8), NONE);
    }

    /** Bids for one lot are not believed in by anybody in the next one, whatever the round and LAG. */
    private static void otherLots() {
        CHECK.part("bids for the lot that runs alone");
        for (int lag = 0; lag <= 5; lag++) {
            for (int ahead = 1; ahead <= 6; ahead++) {
                EchoBids x = Halls.planless(2, 0);
                x.set(EchoBids.LAG, lag);
                x.pass(ahead);
                x.lot(50);
                x.lot(50);
                x.bid(0, 20);
                due("the first one is sold", x.pass(2 + lag), 1);
                due("between two lots, coins", x.of(0, 7), 0);
                due("between two lots, whose", x.of(0, 8), NONE);
                x.set(EchoBids.QUIET, 9);
                for (int round = 1; round <= 7; round++) {
                    x.pass(1);
                    due("its own of the first one", x.of(0, 7), 0);
                    due("another's of the first one", x.of(1, 7), 0);
                    due("whose", x.of(1, 8), NONE);
                }
            }
        }
    }

    private static void told() {
        CHECK.part("told, and at most its purse");
        EchoBids x = Halls.hall(0, 5, 9, 0);
        x.bidder(50, 100);
        x.lot(40);
        x.save(0);
        x.bid(0, 50);
        x.pass(1);
        due("the whole purse", x.made(0, 1), 50);
        CHECK.part("told more than its purse, it bids by its plan");
        x.restore(0);
        x.bid(0, 51);
        x.pass(1);
        due("STEP", x.made(0, 1), 5);
        due("behind the round it is told nothing", x.of(0, 9), 0);
        x.restore(0);
        x.bid(0, 9999);
        x.pass(1);
        due("STEP", x.made(0, 1), 5);
        CHECK.part("told, it bids whatever it believes and plans");
        x.restore(0);
        x.bid(0, 1);
        x.pass(1);
        due("1, which is below STEP", x.made(0, 1), 1);
        x.bid(0, 1);
        x.pass(1);
        due("again, though it believes in its own", x.of(0, 5), 2);
        x.bid(0, 41);
        x.pass(1);
        due("41, which is above its limit", x.ofLot(0, 5), 41);
        x.bid(0, 30);
        x.pass(1);
        due("30, which is below its own", x.made(0, 1), 30);
        x.pass(1);
        due("told nothing, it makes none", x.of(0, 5), 4);
    }

    private static void limits() {
        CHECK.part("STEP is bid if it is at most the limit");
        due("9 of a limit of 9", planned(9, 9999, 90, 10), 1);
        due("10 of a limit of 9", planned(10, 9999, 90, 10), 0);
        CHECK.part("the limit is at most its purse");
        due("a purse of 9", planned(9, 9, 200, 999), 1);
        due("a purse of 8", planned(9, 8, 200, 999), 0);
        CHECK.part("what it believes and STEP is bid if it is at most the limit");
        due("50 of a limit of 50", answered(45, 9999, 50), 50);
        due("51 of a limit of 50", answered(46, 9999, 50), 0);
        due("50 of a purse of 50", answered(45, 50, 200), 50);
        due("51 of a purse of 50", answered(46, 50, 200), 0);
        CHECK.part("if it believes in its own bid, it makes none");
        EchoBids x = Halls.hall(0, 5, 9, 0);
        x.bidder(99, 200);
        x.lot(99);
        x.pass(9);
        due("one bid alone", x.count(6), 1);
    }

    private static int shadowOf(int ahead, int coins) {
        EchoBids x = Halls.planless(2, 1);
        x.set(EchoBids.LAG, 5);
        x.bid(0, ahead);
        x.pass(1);
        x.bid(1, coins);
        x.pass(1);
        return x.made(0, 3);
    }

    private static void shadows() {
        CHECK.part("a bid is a shadow if it is not above the highest of all rounds ahead");
        due("one below, not heard yet", shadowOf(30, 29), 1);
        due("as high", shadowOf(30, 30), 1);
        due("one above", shadowOf(30, 31), 0);
        due("the least of all", shadowOf(1, 1), 1);
        due("the greatest of all", shadowOf(9998, 9999), 0);
        due("the greatest of all twice", shadowOf(9999, 9999), 1);
        CHECK.part("not of this round");
        EchoBids x = Halls.planless(2, 2);
        x.bid(0, 30);
        x.bid(1, 1);
        x.pass(1);
        due("the first round has no shadow", x.count(7), 0);
        CHECK.part("heard or not, its own too");
        x.bid(0, 30);
        x.bid(1, 30);
        x.pass(1);
        due("two", x.count(7), 2);
        due("one each", x.of(0, 6), 1);
        due("one each", x.of(1, 6), 1);
        CHECK.part("not of another lot");
        x.pass(1);
        x.bid(1, 1);
        x.pass(1);
        due("the second lot runs", x.count(3), 1);
        due("no shadow", x.made(0, 3), 0);
        due("two still", x.count(7), 2);
    }

    private static void ends(int lag, int quiet) {
        EchoBids x = Halls.planless(1, 1);
        x.set(EchoBids.LAG, lag);
        x.set(EchoBids.QUIET, quiet);
        int still = lag + quiet;
        x.save(0);
        CHECK.part("without any bid, LAG " + lag + ", QUIET " + quiet);
        for (int round = 1; round < still; round++) {
            due("round " + round, x.pass(1), 0);
        }
        due("the first round is counted", x.pass(1), 1);
        due("not wanted", x.ofLot(0, 1), 3);
        CHECK.part("since the latest bid, LAG " + lag + ", QUIET " + quiet);
        x.restore(0);
        x.bid(0, 9);
        for (int round = 0; round < still; round++) {
            due("round " + round, x.pass(1), 0);
        }
        due("so many behind the bid", x.pass(1), 1);
        due("sold", x.ofLot(0, 1), 2);
        CHECK.part("a shadow is a bid, LAG " + lag + ", QUIET " + quiet);
        x.restore(0);
        x.bid(0, 9);
        for (int round = 0; round < still; round++) {
            due("round " + round, x.pass(1), 0);
        }
        x.bid(0, 1);
        due("the last round ahead of the end", x.pass(1), 0);
        due("it goes on as long again", x.endsIn(), still);
        CHECK.part("what is above the purse is no bid, LAG " + lag + ", QUIET " + quiet);
        x = Halls.hall(lag, 5, quiet, 0);
        x.bidder(9, 0);
        x.lot(5);
        x.bid(0, 10);
        due("without any bid", x.endsIn(), still);
    }

    /** The settings become less while a lot runs: more rounds passed than are asked for. */
    private static void shorterQuiet() {
        CHECK.part("so many rounds, or more, passed");
        EchoBids x = Halls.planless(1, 1);
        x.set(EchoBids.LAG, 5);
        x.set(EchoBids.QUIET, 9);
        x.pass(13);
        x.set(EchoBids.LAG, 0);
        due("it runs until a round ends", x.count(3), 0);
        due("then it ends", x.pass(1), 1);
        due("rounds", x.ofLot(0, 4), 14);
    }

    private static int price(int kind, int highest, int second) {
        EchoBids x = Halls.hall(0, 7, 1, kind);
        x.bidder(9999, 0);
        x.bidder(9999, 0);
        x.lot(100);
        x.bid(1, highest);
        if (second > 0) {
            x.bid(0, second);
        }
        x.pass(2);
        due("what is paid is the price", x.of(1, 3) + x.of(0, 3), x.ofLot(0, 3));
        due("it goes from the purse", 2 * 9999 - x.of(0, 0) - x.of(1, 0), x.ofLot(0, 3));
        return x.ofLot(0, 3);
    }

    /** The second price, with STEP 7, in a hall where nobody else could bid. */
    private static int priceAlone(int coins) {
        EchoBids x = Halls.hall(0, 7, 1, 1);
        x.bidder(9999, 0);
        x.lot(100);
        x.bid(0, coins);
        x.pass(2);
        return x.ofLot(0, 3);
    }

    private static void prices() {
        CHECK.part("PRICE 0: that bid");
        due("alone", price(0, 60, 0), 60);
        due("ahead of another", price(0, 60, 59), 60);
        due("of two alike", price(0, 60, 60), 60);
        CHECK.part("PRICE 1: the most of another, and STEP");
        due("52 and 7", price(1, 60, 52), 59);
        due("1 and 7", price(1, 60, 1), 8);
        CHECK.part("PRICE 1: at most that bid");
        due("53 and 7", price(1, 60, 53), 60);
        due("54 and 7", price(1, 60, 54), 60);
        due("60 and 7", price(1, 60, 60), 60);
        due("9999 and 7", price(1, 9999, 9999), 9999);
        CHECK.part("PRICE 1: STEP, at most that bid, without another bidder");
        due("8 alone", price(1, 8, 0), 7);
        due("7 alone", price(1, 7, 0), 7);
        due("6 alone", price(1, 6, 0), 6);
        due("1 alone", price(1, 1, 0), 1);
        due("8 of one bidder in all", priceAlone(8), 7);
        due("7 of one bidder in all", priceAlone(7), 7);
        due("6 of one bidder in all", priceAlone(6), 6);
        CHECK.part("a lot without a bid has no price");
        EchoBids x = Halls.planless(1, 1);
        x.pass(1);
        due("price", x.ofLot(0, 3), NONE);
        due("buyer", x.ofLot(0, 2), NONE);
        due("the purse is whole", x.of(0, 0), 9999);
        CHECK.part("the price goes from the purse ahead of the next lot");
        x = Halls.hall(0, 10, 1, 0);
        x.bidder(19, 200);
        x.lot(50);
        x.lot(50);
        x.pass(2);
        due("9 are left", x.of(0, 0), 9);
        due("which is below STEP", x.pass(1), 1);
        due("not wanted", x.ofLot(1, 1), 3);
        CHECK.part("what others bid for other lots is no second price");
        x = Halls.planless(2, 2);
        x.set(EchoBids.PRICE, 1);
        x.bid(0, 50);
        x.pass(2);
        x.bid(1, 50);
        x.pass(2);
        due("STEP", x.ofLot(1, 3), 5);
    }

    public static void main(String[] args) {
        conventions();
        settings();
        sixAndEight();
        pursesAndPlans();
        waiting();
        highest();
        heard();
        believed();
        otherLots();
        told();
        limits();
        shadows();
        ends(0, 1);
        ends(5, 9);
        ends(0, 9);
        ends(5, 1);
        ends(1, 2);
        shorterQuiet();
        prices();
        CHECK.finish("edges of rounds");
    }
}
