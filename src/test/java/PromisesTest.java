/** One method for each promise, and one for each of the rules under "Rounds". */
public final class PromisesTest {
    private static final Check CHECK = new Check();
    private static final int NO_SUCH = EchoBids.NO_SUCH, BAD_VALUE = EchoBids.BAD_VALUE, BAD_TEXT = EchoBids.BAD_TEXT,
        TOO_MANY = EchoBids.TOO_MANY, NOT_POSSIBLE = EchoBids.NOT_POSSIBLE, NONE = EchoBids.NONE;
    private static final int LEAST_INT = Integer.MIN_VALUE, GREATEST_INT = Integer.MAX_VALUE;

    private static void due(String call, long got, long want) {
        CHECK.due(call, got, want);
    }

    private static void constants() {
        CHECK.part("constants");
        long[] got = {EchoBids.NO_SUCH, EchoBids.BAD_VALUE, EchoBids.BAD_TEXT, EchoBids.TOO_MANY,
            EchoBids.NOT_POSSIBLE, EchoBids.NONE, EchoBids.LAG, EchoBids.STEP, EchoBids.QUIET, EchoBids.PRICE};
        long[] want = {-1, -2, -3, -4, -5, -6, 0, 1, 2, 3};
        for (int i = 0; i < want.length; i++) {
            due("constant " + i, got[i], want[i]);
        }
    }

    private static void promise1() {
        CHECK.part("promise 1");
        EchoBids x = new EchoBids();
        int[] counts = {0, 0, 0, NONE, 0, 0, 0, 0, 1, 5, 2, 0, 0, 0};
        for (int what = 0; what < counts.length; what++) {
            due("count(" + what + ")", x.count(what), counts[what]);
        }
        due("of(0, 0)", x.of(0, 0), NO_SUCH);
        due("ofLot(0, 0)", x.ofLot(0, 0), NO_SUCH);
        due("made(0, 0)", x.made(0, 0), NO_SUCH);
        due("undo()", x.undo(), NOT_POSSIBLE);
        due("restore(0)", x.restore(0), NOT_POSSIBLE);
        due("wipe()", x.wipe(), 0);
    }

    private static void promise2() {
        CHECK.part("promise 2");
        int[] first = {1, 5, 2, 0};
        int[] least = {0, 1, 1, 0};
        int[] most = {5, 99, 9, 1};
        EchoBids x = new EchoBids();
        for (int s = 0; s < 4; s++) {
            due("set below " + s, x.set(s, least[s] - 1), BAD_VALUE);
            due("set above " + s, x.set(s, most[s] + 1), BAD_VALUE);
            due("set far " + s, x.set(s, LEAST_INT), BAD_VALUE);
            due("set far " + s, x.set(s, GREATEST_INT), BAD_VALUE);
            due("kept " + s, x.count(8 + s), first[s]);
            due("set least " + s, x.set(s, least[s]), first[s]);
            due("set most " + s, x.set(s, most[s]), least[s]);
            due("now " + s, x.count(8 + s), most[s]);
        }
        due("set(4, 1)", x.set(4, 1), BAD_VALUE);
        due("set(-1, 1)", x.set(-1, 1), BAD_VALUE);
        due("set(least, 1)", x.set(LEAST_INT, 1), BAD_VALUE);
        due("failed calls are no changes", x.count(13), 6);
    }

    private static void promise3() {
        CHECK.part("promise 3");
        EchoBids x = new EchoBids();
        due("bidder(-1, 0)", x.bidder(-1, 0), BAD_VALUE);
        due("bidder(10000, 0)", x.bidder(10000, 0), BAD_VALUE);
        due("bidder(0, -1)", x.bidder(0, -1), BAD_VALUE);
        due("bidder(0, 201)", x.bidder(0, 201), BAD_VALUE);
        due("no change", x.count(13), 0);
        due("bidder(0, 0)", x.bidder(0, 0), 0);
        due("bidder(9999, 200)", x.bidder(9999, 200), 1);
        due("purse", x.of(1, 0), 9999);
        due("plan", x.of(1, 1), 200);
        for (int b = 2; b < 6; b++) {
            due("bidder " + b, x.bidder(b, b), b);
        }
        due("a seventh", x.bidder(1, 1), TOO_MANY);
        due("a bad seventh", x.bidder(-1, 1), BAD_VALUE);
        due("bidders", x.count(1), 6);
    }

    private static void promise4() {
        CHECK.part("promise 4");
        EchoBids x = new EchoBids();
        due("plan(0, 1)", x.plan(0, 1), NO_SUCH);
        x.bidder(100, 30);
        due("plan(-1, 1)", x.plan(-1, 1), NO_SUCH);
        due("plan(1, 300)", x.plan(1, 300), NO_SUCH);
        due("plan(0, 201)", x.plan(0, 201), BAD_VALUE);
        due("plan(0, -1)", x.plan(0, -1), BAD_VALUE);
        due("plan(0, 200)", x.plan(0, 200), 30);
        due("plan(0, 0)", x.plan(0, 0), 200);
        due("of(0, 1)", x.of(0, 1), 0);
        due("changes", x.count(13), 3);
    }

    private static void promise5() {
        CHECK.part("promise 5");
        EchoBids x = new EchoBids();
        due("lot(-1)", x.lot(-1), BAD_VALUE);
        due("lot(1000)", x.lot(1000), BAD_VALUE);
        due("lot(0)", x.lot(0), 0);
        due("lot(999)", x.lot(999), 1);
        due("it waits", x.ofLot(1, 1), 0);
        for (int l = 2; l < 8; l++) {
            due("lot " + l, x.lot(l), l);
        }
        due("a ninth", x.lot(1), TOO_MANY);
        due("a bad ninth", x.lot(1000), BAD_VALUE);
        due("lots", x.count(2), 8);
    }

    private static void promise6() {
        CHECK.part("promise 6");
        EchoBids x = new EchoBids();
        due("bid(0, 1)", x.bid(0, 1), NO_SUCH);
        x.bidder(50, 0);
        due("bid(1, 0)", x.bid(1, 0), NO_SUCH);
        due("bid(0, 0)", x.bid(0, 0), BAD_VALUE);
        due("bid(0, 10000)", x.bid(0, 10000), BAD_VALUE);
        due("bid(0, 9999)", x.bid(0, 9999), 0);
        due("bid(0, 50)", x.bid(0, 50), 9999);
        x.pass(3);
        due("told through rounds without a lot", x.of(0, 9), 50);
        x.lot(10);
        due("told while the lot waits", x.of(0, 9), 50);
        x.pass(1);
        due("made as told", x.made(0, 1), 50);
        due("told nothing then", x.of(0, 9), 0);
        due("bid(0, 51)", x.bid(0, 51), 0);
        x.pass(1);
        due("more than the purse is not bid", x.of(0, 5), 1);
        due("and is not told any more", x.of(0, 9), 0);
        x.bid(0, 1);
        x.pass(1);
        due("told, it bids below its own bid", x.made(0, 1), 1);
        due("a shadow", x.made(0, 3), 1);
    }

    private static void promise7() {
        CHECK.part("promise 7");
        EchoBids x = Halls.hall(0, 1, 1, 0);
        due("pass(0)", x.pass(0), BAD_VALUE);
        due("pass(100)", x.pass(100), BAD_VALUE);
        due("pass(-1)", x.pass(-1), BAD_VALUE);
        due("pass(greatest)", x.pass(GREATEST_INT), BAD_VALUE);
        x.lot(1);
        x.lot(1);
        x.lot(1);
        due("lots that nobody wants end too", x.pass(2), 2);
        due("pass(99)", x.pass(99), 1);
        for (int k = 0; k < 99; k++) {
            x.pass(99);
        }
        due("rounds", x.count(0), 9902);
        due("pass(98)", x.pass(98), NOT_POSSIBLE);
        due("pass(97)", x.pass(97), 0);
        due("pass(1)", x.pass(1), NOT_POSSIBLE);
        due("pass(100) then", x.pass(100), BAD_VALUE);
        due("rounds", x.count(0), 9999);
        x.lot(1);
        due("what-ifs go past the bound", x.endsIn(), 1);
    }

    /** LAG 0: 10 and 10; then B 20; then A 30; then quiet. */
    private static void firstPrice() {
        CHECK.part("first price");
        EchoBids x = Halls.hall(0, 10, 1, 0);
        x.bidder(100, 100);
        x.bidder(100, 100);
        x.lot(35);
        due("endsIn()", x.endsIn(), 4);
        due("pass(1)", x.pass(1), 0);
        due("of two alike the lowest bidder's", x.ofLot(0, 6), 0);
        due("B hears A", x.of(1, 8), 0);
        due("A believes in its own", x.of(0, 8), 0);
        due("pass(1)", x.pass(1), 0);
        due("B's", x.made(0, 0), 1);
        due("20", x.made(0, 1), 20);
        due("pass(1)", x.pass(1), 0);
        due("30", x.ofLot(0, 5), 30);
        due("pass(1)", x.pass(1), 1);
        due("price", x.ofLot(0, 3), 30);
        due("buyer", x.ofLot(0, 2), 0);
        due("rounds", x.ofLot(0, 4), 4);
        due("purse", x.of(0, 0), 70);
        due("lots", x.of(0, 2), 1);
        due("paid", x.of(0, 3), 30);
        due("worth", x.of(0, 4), 35);
        due("bids", x.of(0, 5), 2);
        due("no shadows", x.count(7), 0);
        due("nothing is believed without a lot", x.of(0, 7), 0);
        due("and nobody's", x.of(0, 8), NONE);
        due("bids are still known", x.made(3, 0), 0);
    }

    private static void secondPrice() {
        CHECK.part("second price");
        EchoBids x = Halls.hall(0, 7, 1, 1);
        x.bidder(100, 0);
        x.bidder(100, 0);
        x.bidder(100, 0);
        for (int l = 0; l < 5; l++) {
            x.lot(50);
        }
        x.bid(0, 40);
        x.bid(1, 60);
        x.bid(2, 20);
        x.pass(2);
        due("40 and 7", x.ofLot(0, 3), 47);
        due("buyer", x.ofLot(0, 2), 1);
        x.bid(0, 40);
        x.bid(2, 44);
        x.pass(2);
        due("at most its bid", x.ofLot(1, 3), 44);
        x.bid(2, 30);
        x.pass(2);
        due("STEP without another bidder", x.ofLot(2, 3), 7);
        x.bid(2, 3);
        x.pass(2);
        due("at most its bid, without another", x.ofLot(3, 3), 3);
        x.bid(0, 25);
        x.pass(1);
        x.bid(0, 10);
        x.pass(1);
        x.bid(0, 50);
        x.bid(1, 12);
        x.pass(2);
        due("its own lower bids do not count", x.ofLot(4, 3), 19);
    }

    /** One bid of 20 by C, who has no plan: when do the others hear it? */
    private static void lags() {
        CHECK.part("lags");
        for (int lag = 0; lag <= 5; lag++) {
            EchoBids x = Halls.hall(lag, 5, 9, 0);
            x.bidder(9999, 0);
            x.bidder(9999, 0);
            x.lot(100);
            x.bid(1, 20);
            x.pass(1);
            for (int ahead = 1; ahead <= 7; ahead++) {
                due("LAG " + lag + ", " + ahead + " rounds on", x.of(0, 7), ahead > lag ? 20 : 0);
                due("LAG " + lag + ", " + ahead + " rounds on, whose", x.of(0, 8), ahead > lag ? 1 : NONE);
                due("its own is believed at once", x.of(1, 7), 20);
                x.pass(1);
            }
        }
    }

    /** What was heard with a short LAG is not heard with a longer one, and the other way round. */
    private static void lagChanges() {
        CHECK.part("a new LAG");
        EchoBids x = Halls.hall(5, 1, 9, 0);
        x.bidder(9999, 0);
        x.bidder(9999, 0);
        x.lot(100);
        for (int coins = 1; coins <= 8; coins++) {
            x.bid(1, coins);
            x.pass(1);
        }
        for (int lag = 0; lag <= 5; lag++) {
            x.set(EchoBids.LAG, lag);
            due("believed with LAG " + lag, x.of(0, 7), 8 - lag);
        }
    }

    private static void limits() {
        CHECK.part("limits");
        EchoBids x = Halls.hall(0, 10, 1, 0);
        x.bidder(100, 50);
        x.lot(19);
        x.lot(20);
        x.lot(21);
        due("STEP is above 9", x.pass(1), 1);
        due("not wanted", x.ofLot(0, 1), 3);
        due("no price", x.ofLot(0, 3), NONE);
        due("no buyer", x.ofLot(0, 2), NONE);
        due("10 is not above 10", x.pass(2), 1);
        due("sold", x.ofLot(1, 3), 10);
        x = Halls.hall(0, 10, 1, 0);
        x.bidder(9, 200);
        x.bidder(10, 200);
        x.lot(999);
        x.pass(1);
        due("the purse is a limit", x.count(6), 1);
        due("B's", x.made(0, 0), 1);
        x = Halls.hall(0, 10, 1, 0);
        x.bidder(9999, 100);
        x.bidder(9999, 99);
        x.lot(20);
        x.pass(2);
        due("19 is below 20", x.count(6), 2);
    }

    private static void quiet() {
        CHECK.part("quiet");
        for (int lag = 0; lag <= 5; lag++) {
            for (int quiet = 1; quiet <= 9; quiet++) {
                EchoBids x = Halls.hall(lag, 5, quiet, 0);
                x.bidder(100, 0);
                x.lot(1);
                due("without a bid", x.endsIn(), quiet + lag);
                x.bid(0, 1);
                due("with one", x.endsIn(), quiet + lag + 1);
            }
        }
        EchoBids x = Halls.hall(5, 5, 9, 0);
        x.bidder(100, 0);
        x.lot(1);
        x.bid(0, 1);
        x.pass(13);
        x.set(EchoBids.QUIET, 1);
        x.set(EchoBids.LAG, 0);
        due("a shorter quiet is long over", x.endsIn(), 1);
        due("the lot runs until then", x.count(3), 0);
        due("pass(1)", x.pass(1), 1);
        due("rounds", x.ofLot(0, 4), 14);
    }

    /** LAG 1: all bid 5; B and C, who hear A's, 10; A hears B's 10 when B bid 60. */
    private static void shadowRules() {
        CHECK.part("shadow rules");
        EchoBids x = Halls.hall(1, 5, 2, 0);
        x.bidder(200, 100);
        x.bidder(150, 80);
        x.bidder(90, 200);
        x.lot(100);
        x.pass(3);
        due("bids", x.count(6), 5);
        due("no shadows", x.count(7), 0);
        x.bid(1, 60);
        x.pass(1);
        due("A hears 10 alone", x.of(0, 7), 10);
        x.pass(1);
        due("two shadows", x.count(7), 2);
        due("A's", x.of(0, 6), 1);
        due("C's", x.of(2, 6), 1);
        due("C's is the latest", x.made(0, 0), 2);
        due("15", x.made(0, 1), 15);
        due("in round 4", x.made(0, 2), 4);
        due("a shadow", x.made(0, 3), 1);
        due("A's ahead of it", x.made(1, 0), 0);
        due("B's 60 is none", x.made(2, 3), 0);
        x = Halls.hall(0, 5, 9, 0);
        x.bidder(99, 0);
        x.bidder(99, 0);
        x.lot(1);
        x.bid(0, 30);
        x.pass(1);
        x.bid(0, 30);
        x.bid(1, 31);
        x.pass(1);
        due("as high is not above", x.of(0, 6), 1);
        due("31 is above", x.of(1, 6), 0);
        due("what comes in the same round does not matter", x.count(7), 1);
    }

    private static void ties() {
        CHECK.part("ties");
        EchoBids x = Halls.hall(0, 5, 9, 0);
        for (int b = 0; b < 4; b++) {
            x.bidder(99, 0);
        }
        x.lot(1);
        x.bid(2, 30);
        x.bid(3, 30);
        x.pass(1);
        x.bid(1, 30);
        x.pass(1);
        due("the earliest round's, there the lowest bidder's", x.ofLot(0, 6), 2);
        due("0 believes in it", x.of(0, 8), 2);
        due("1 believes in it, not in its own later one", x.of(1, 8), 2);
        due("3 believes in it, not in its own", x.of(3, 8), 2);
        x.set(EchoBids.LAG, 1);
        x.bid(0, 30);
        x.pass(1);
        x.set(EchoBids.LAG, 5);
        due("1 hears its own alone", x.of(1, 8), 1);
        due("3 too", x.of(3, 8), 3);
    }

    private static void lotAfterLot() {
        CHECK.part("lot after lot");
        EchoBids x = Halls.hall(0, 5, 1, 0);
        x.bidder(99, 0);
        x.lot(1);
        x.lot(2);
        due("none runs", x.count(3), NONE);
        x.bid(0, 30);
        x.pass(1);
        due("the first runs", x.count(3), 0);
        due("the second waits", x.ofLot(1, 1), 0);
        x.pass(1);
        due("sold", x.ofLot(0, 1), 2);
        due("the second waits until the next round", x.ofLot(1, 1), 0);
        due("none runs", x.count(3), NONE);
        due("made() tells of the one that ran last", x.made(0, 1), 30);
        x.set(EchoBids.QUIET, 2);
        x.pass(1);
        due("the second runs", x.ofLot(1, 1), 1);
        due("it has no bids", x.made(0, 1), NO_SUCH);
        due("nothing is believed of the first", x.of(0, 7), 0);
        x.bid(0, 20);
        x.pass(1);
        due("20 is no shadow of 30", x.made(0, 3), 0);
        x.pass(2);
        due("lots", x.of(0, 2), 3);
        due("sold", x.count(4), 2);
    }

    private static void promise8() {
        CHECK.part("promise 8");
        EchoBids x = Halls.hall(0, 5, 1, 0);
        due("of(0, 99)", x.of(0, 99), NO_SUCH);
        x.bidder(90, 10);
        x.bidder(80, 20);
        x.lot(10);
        x.lot(40);
        x.lot(7);
        due("of(-1, 0)", x.of(-1, 0), NO_SUCH);
        due("of(2, 0)", x.of(2, 0), NO_SUCH);
        due("of(0, -1)", x.of(0, -1), BAD_VALUE);
        due("of(0, 10)", x.of(0, 10), BAD_VALUE);
        due("of(least, least)", x.of(LEAST_INT, LEAST_INT), NO_SUCH);
        x.bid(0, 11);
        x.pass(2);
        x.pass(2);
        x.bid(0, 22);
        x.bid(1, 21);
        x.pass(1);
        x.bid(1, 22);
        x.pass(1);
        x.bid(1, 33);
        x.pass(1);
        x.bid(1, 1);
        x.set(EchoBids.LAG, 2);
        // A bought lot 0 for 11; B bid 5 for lot 1 by its plan, and bought it; lot 2 runs.
        int[] a = {79, 10, 1, 11, 10, 2, 0, 22, 0, 0};
        int[] b = {75, 20, 2, 5, 40, 4, 1, 33, 1, 1};
        for (int what = 0; what < 10; what++) {
            due("of(0, " + what + ")", x.of(0, what), a[what]);
            due("of(1, " + what + ")", x.of(1, what), b[what]);
        }
    }

    private static void promise9() {
        CHECK.part("promise 9");
        EchoBids x = Halls.hall(0, 5, 1, 0);
        due("ofLot(0, 99)", x.ofLot(0, 99), NO_SUCH);
        x.bidder(90, 0);
        x.bidder(90, 0);
        for (int worth = 10; worth < 50; worth += 10) {
            x.lot(worth);
        }
        due("ofLot(-1, 0)", x.ofLot(-1, 0), NO_SUCH);
        due("ofLot(4, 0)", x.ofLot(4, 0), NO_SUCH);
        due("ofLot(0, -1)", x.ofLot(0, -1), BAD_VALUE);
        due("ofLot(0, 7)", x.ofLot(0, 7), BAD_VALUE);
        x.pass(1);
        x.bid(1, 15);
        x.pass(1);
        x.bid(0, 25);
        x.pass(2);
        x.bid(1, 9);
        x.bid(0, 9);
        x.pass(1);
        int[][] want = {
            {10, 3, NONE, NONE, 1, 0, NONE},
            {20, 2, 0, 25, 3, 25, 0},
            {30, 1, NONE, NONE, 1, 9, 0},
            {40, 0, NONE, NONE, 0, 0, NONE}};
        for (int l = 0; l < 4; l++) {
            for (int what = 0; what < 7; what++) {
                due("ofLot(" + l + ", " + what + ")", x.ofLot(l, what), want[l][what]);
            }
        }
    }

    private static void promise10() {
        CHECK.part("promise 10");
        EchoBids x = Halls.duel(500, 200);
        due("made(0, 9)", x.made(0, 9), NO_SUCH);
        x.pass(60);
        due("made(-1, 0)", x.made(-1, 0), NO_SUCH);
        due("made(least, 0)", x.made(LEAST_INT, 0), NO_SUCH);
        due("made(greatest, 0)", x.made(GREATEST_INT, 0), NO_SUCH);
        due("made(0, -1)", x.made(0, -1), BAD_VALUE);
        due("made(39, 4)", x.made(39, 4), BAD_VALUE);
        due("made(40, 4)", x.made(40, 4), NO_SUCH);
        for (int ago = 0; ago < 40; ago++) {
            due("bidder " + ago, x.made(ago, 0), (59 - ago) % 2);
            due("coins " + ago, x.made(ago, 1), 60 - ago);
            due("round " + ago, x.made(ago, 2), 59 - ago);
            due("shadow " + ago, x.made(ago, 3), 0);
        }
        x = Halls.hall(0, 5, 1, 0);
        x.bidder(99, 0);
        x.bidder(99, 0);
        x.lot(5);
        x.bid(0, 7);
        x.bid(1, 6);
        x.pass(1);
        due("the greatest number first", x.made(0, 0), 1);
        due("then the other", x.made(1, 1), 7);
        due("no third", x.made(2, 1), NO_SUCH);
    }

    private static void promise11() {
        CHECK.part("promise 11");
        EchoBids x = Halls.hall(3, 7, 4, 1);
        due("count(-1)", x.count(-1), BAD_VALUE);
        due("count(14)", x.count(14), BAD_VALUE);
        due("count(least)", x.count(LEAST_INT), BAD_VALUE);
        x.bidder(50, 0);
        x.bidder(50, 0);
        x.lot(10);
        x.lot(10);
        x.lot(10);
        x.bid(1, 30);
        x.pass(1);
        x.bid(0, 20);
        x.pass(7);
        x.pass(7);
        x.pass(2);
        Halls.putAll(x, "t1;t");
        int[] want = {17, 2, 3, 2, 1, 27, 2, 1, 3, 7, 4, 1, 4, 6};
        for (int what = 0; what < 14; what++) {
            due("count(" + what + ")", x.count(what), want[what]);
        }
    }

    private static void promise12() {
        CHECK.part("promise 12");
        EchoBids x = Halls.hall(5, 1, 9, 0);
        due("without bids", x.shadows(), 0);
        x.bidder(9999, 0);
        x.lot(1);
        x.bid(0, 50);
        x.pass(1);
        due("none of 1", x.shadows(), 0);
        int bids = 1;
        int shadows = 0;
        for (int k = 0; k < 120; k++) {
            boolean shadow = k % 7 != 3;
            x.bid(0, shadow ? 1 : 51 + k);
            x.pass(1);
            bids++;
            shadows += shadow ? 1 : 0;
            due(shadows + " of " + bids, x.shadows(), Float.floatToIntBits((float) shadows / (float) bids));
        }
        x = Halls.hall(5, 1, 9, 0);
        x.bidder(9999, 0);
        x.lot(1);
        x.bid(0, 9999);
        x.pass(1);
        for (int k = 1; k < 150; k++) {
            x.bid(0, 1);
            x.pass(1);
            due("all but one", x.shadows(), Float.floatToIntBits((float) k / (float) (k + 1)));
        }
    }

    private static void promise13() {
        CHECK.part("promise 13");
        int[][] cases = {{1, 999}, {9999, 1}, {1, 1}, {3, 7}, {999, 999}, {1000, 999}, {4, 2}, {5000, 3}, {17, 16}, {7, 900}};
        for (int[] pair : cases) {
            EchoBids x = Halls.hall(0, 1, 1, 0);
            due("without lots", x.dear(), 0L);
            x.bidder(9999, 0);
            x.lot(pair[1]);
            x.lot(500);
            x.bid(0, pair[0]);
            x.pass(1);
            due("not sold yet", x.dear(), 0L);
            x.pass(2);
            due("a lot that nobody wants does not count", x.ofLot(1, 1), 3);
            due(pair[0] + " for " + pair[1], x.dear(), Double.doubleToLongBits((double) pair[0] / (double) pair[1]));
        }
        EchoBids x = Halls.hall(0, 1, 1, 0);
        x.bidder(9999, 0);
        x.lot(0);
        x.lot(30);
        x.bid(0, 40);
        x.pass(2);
        due("for worths of 0", x.dear(), 0L);
        x.bid(0, 21);
        x.pass(2);
        due("61 for 30", x.dear(), Double.doubleToLongBits(61.0 / 30.0));
    }

    private static void promise14() {
        CHECK.part("promise 14");
        EchoBids x = new EchoBids();
        due("no lots", x.endsIn(), NONE);
        x.bidder(10, 100);
        due("no lots", x.endsIn(), NONE);
        x.lot(10);
        due("waits", x.endsIn(), 4);
        x.pass(1);
        due("runs", x.endsIn(), 3);
        x.bid(0, 10);
        due("with what is told", x.endsIn(), 4);
        due("nothing changes", x.count(0), 1);
        due("it is told still", x.of(0, 9), 10);
        x.pass(4);
        due("over", x.endsIn(), NONE);
        due("in 500", Halls.duel(499, 100).endsIn(), 500);
        due("in 501", Halls.duel(500, 100).endsIn(), NONE);
    }

    private static void promise15() {
        CHECK.part("promise 15");
        EchoBids x = Halls.hall(0, 10, 1, 0);
        due("ifLag(-1)", x.ifLag(-1), BAD_VALUE);
        due("ifLag(6)", x.ifLag(6), BAD_VALUE);
        due("no lots", x.ifLag(5), 0);
        x.bidder(100, 100);
        x.bidder(100, 100);
        x.lot(35);
        x.lot(12);
        // The loser of the first lot and the winner both bid 10 for the second one.
        due("ifLag(0)", x.ifLag(0), 40);
        due("LAG stays", x.count(8), 0);
        due("nothing is recorded", x.count(13), 6);
        x.pass(5);
        due("what was paid does not count", x.ifLag(0), 10);
        x = Halls.hall(0, 10, 1, 0);
        x.bidder(100, 50);
        x.bidder(100, 50);
        x.lot(100);
        x.bid(0, 40);
        x.pass(1);
        // With LAG 0, B hears 40 and bids 50; with LAG 2, it bids 10, and 50 when it hears, in round 3.
        due("ifLag(0)", x.ifLag(0), 50);
        due("ifLag(2)", x.ifLag(2), 50);
        x.set(EchoBids.STEP, 30);
        due("too dear", x.ifLag(5), 40);
        due("in 1000 rounds", Halls.duel(999, 100).ifLag(0), 999);
        due("in 1001 rounds", Halls.duel(500, 200).ifLag(0), 0);
    }

    private static void promise16() {
        CHECK.part("promise 16");
        EchoBids x = Halls.hall(0, 10, 1, 0);
        due("bestPlan(0, 9)", x.bestPlan(0, 9), NO_SUCH);
        x.bidder(100, 0);
        due("bestPlan(0, 2)", x.bestPlan(0, 2), BAD_VALUE);
        due("bestPlan(0, -1)", x.bestPlan(0, -1), BAD_VALUE);
        due("bestPlan(1, 2)", x.bestPlan(1, 2), NO_SUCH);
        due("no lots", x.bestPlan(0, 0), 0);
        due("no gain", x.bestPlan(0, 1), 100000);
        x.lot(50);
        due("the least plan that bids 10", x.bestPlan(0, 0), 20);
        due("50 less 10", x.bestPlan(0, 1), 100040);
        due("the plan stays", x.of(0, 1), 0);
        due("nothing is recorded", x.count(13), 6);
        x.bid(0, 90);
        due("what is told is bid", x.bestPlan(0, 1), 99960);
        due("all plans are as good", x.bestPlan(0, 0), 0);
        x.pass(2);
        due("the loss is no part of it then", x.bestPlan(0, 1), 100000);
        x = Halls.queue(2, 7, 98);
        due("in 1000 rounds", x.bestPlan(0, 0), 100);
        due("999 less 979", x.bestPlan(0, 1), 100020);
        x = Halls.queue(6, 6, 96);
        due("in 1001 rounds", x.bestPlan(0, 0), 0);
        due("no gain", x.bestPlan(0, 1), 100000);
        x = Halls.hall(0, 10, 1, 0);
        x.bidder(1000, 0);
        x.lot(5);
        due("200 is the greatest plan", x.bestPlan(0, 0), 0);
        due("5 for 10 is a loss", x.bestPlan(0, 1), 100000);
        x.set(EchoBids.STEP, 99);
        x.lot(100);
        due("99 of 100", x.bestPlan(0, 0), 100);
        due("1", x.bestPlan(0, 1), 100001);
        x = Halls.hall(0, 1, 1, 0);
        x.bidder(100, 0);
        x.lot(100);
        due("1 needs the plan 1, which is no multiple of 10", x.bestPlan(0, 0), 10);
        x = Halls.rivals();
        due("the greatest plan", x.bestPlan(1, 0), 200);
        due("100 less 10", x.bestPlan(1, 1), 100090);
    }

    private static void promise17() {
        CHECK.part("promise 17");
        EchoBids x = new EchoBids();
        due("put(0)", x.put(0), BAD_VALUE);
        due("put(32)", x.put(32), BAD_VALUE);
        due("put(127)", x.put(127), BAD_VALUE);
        due("put(255)", x.put(255), BAD_VALUE);
        due("put(least)", x.put(Long.MIN_VALUE), BAD_VALUE);
        due("put(-1)", x.put(-1), BAD_VALUE);
        due("a gap", x.put('t' << 16 | '1'), BAD_VALUE);
        due("a gap at the end", x.put('t' << 8), BAD_VALUE);
        due("a high bit above the end", x.put(1L << 63 | 't'), BAD_VALUE);
        due("a bad one ahead of good ones", x.put(32 << 8 | 't'), BAD_VALUE);
        due("put(33)", x.put(33), 1);
        due("put(126)", x.put(126), 2);
        due("wipe()", x.wipe(), 2);
        due("eight", x.put(0x7474747474747474L), 8);
        for (int k = 2; k <= 9; k++) {
            due("eight more", x.put(0x7474747474747474L), 8 * k);
        }
        due("six", x.put(0x747474747474L), 78);
        due("three are too many", x.put(0x747474), TOO_MANY);
        due("a bad one is bad first", x.put(0x74740174), BAD_VALUE);
        due("two", x.put(0x7474), 80);
        due("one more", x.put('t'), TOO_MANY);
        due("count(12)", x.count(12), 80);
        due("puts are no changes", x.count(13), 0);
    }

    private static void promise18() {
        CHECK.part("promise 18");
        EchoBids x = new EchoBids();
        due("wipe()", x.wipe(), 0);
        Halls.putAll(x, "l5;l6");
        due("wipe()", x.wipe(), 5);
        due("wipe()", x.wipe(), 0);
        Halls.putAll(x, "t1");
        due("only what came since", x.fault(), NONE);
        due("no change", x.count(13), 0);
    }

    private static void promise19() {
        CHECK.part("promise 19");
        String[] texts = {"", "t1", "t0", "t9999", "t10000", "t01", "t00", "l", "l5;", "l5;;", "l5l6", "b1=5", "b12=5",
            "b=5", "b1=", "b1", "b1*5", "+1*2", "+1", "+1*", "+*2", "+1=2", "+01*2", "+1*02", "+9999*9999", "+99999*1",
            "+1*99990", "x", "T1", "t1 ", "t1;x", "t-1", "t1;b0=0;+0*0;l0", "b9=9999;", "1", ";", "t1;l2;b3=4;+5*6x", "b0=12345"};
        int[] faults = {0, NONE, NONE, NONE, 5, 2, 2, 1, 3, 3, 2, NONE, 2,
            1, 3, 2, 2, NONE, 2, 3, 1, 2, 2, 4, NONE, 5,
            7, 0, 0, 2, 3, 1, NONE, 8, 0, 0, 15, 7};
        for (int i = 0; i < texts.length; i++) {
            EchoBids x = new EchoBids();
            Halls.putAll(x, texts[i].replace(' ', '!'));
            due("fault of " + texts[i], x.fault(), faults[i]);
            due("the pad stays", x.count(12), texts[i].length());
            due("carryOut of " + texts[i] + " fails or not", x.carryOut() == BAD_TEXT ? 1 : 0, faults[i] == NONE ? 0 : 1);
            due("the pad stays or not", x.count(12), faults[i] == NONE ? 0 : texts[i].length());
            due("recorded or not", x.count(13), faults[i] == NONE ? 1 : 0);
        }
    }

    private static void promise20() {
        CHECK.part("promise 20");
        EchoBids x = new EchoBids();
        due("an empty pad", x.carryOut(), BAD_TEXT);
        Halls.putAll(x, "+50*40;+60*0;l100;b1=33;t2;l0");
        due("six", x.carryOut(), 6);
        due("purse", x.of(0, 0), 50);
        due("plan", x.of(0, 1), 40);
        due("lot", x.ofLot(0, 0), 100);
        due("bid", x.ofLot(0, 5), 33);
        due("rounds", x.count(0), 2);
        due("lots", x.count(2), 2);
        due("one change", x.count(13), 1);
        due("an empty pad", x.count(12), 0);
        Halls.putAll(x, "l7;b2=5;l8");
        due("up to the first error", x.carryOut(), 1);
        due("lots", x.count(2), 3);
        due("a change", x.count(13), 2);
        Halls.putAll(x, "t100;l8");
        due("none", x.carryOut(), 0);
        due("a change too", x.count(13), 3);
        due("undo()", x.undo(), 2);
        due("undo()", x.undo(), 1);
        due("lots", x.count(2), 2);
        due("undo()", x.undo(), 0);
        due("nothing is there", x.count(1), 0);
        String[] wrong = {"+9999*201", "l1000", "b0=1", "t0", "t100"};
        for (String text : wrong) {
            Halls.putAll(x, text + ";l1");
            due(text, x.carryOut(), 0);
        }
        due("none of them changed a thing", x.count(2), 0);
    }

    private static void promise21() {
        CHECK.part("promise 21");
        EchoBids x = new EchoBids();
        for (int k = 0; k < 8; k++) {
            x.lot(k);
        }
        due("too many", x.lot(1), TOO_MANY);
        for (int left = 5; left >= 0; left--) {
            due("undo()", x.undo(), left);
        }
        due("undo()", x.undo(), NOT_POSSIBLE);
        due("two lots are left", x.count(2), 2);
        x = Halls.hall(0, 5, 1, 0);
        x.bidder(90, 100);
        x.bidder(90, 100);
        x.lot(50);
        x.pass(3);
        Halls.putAll(x, "t1");
        x.save(1);
        x.plan(0, 7);
        x.bid(0, 70);
        x.pass(2);
        x.set(EchoBids.LAG, 4);
        due("restore(1)", x.restore(1), 1);
        due("undo()", x.undo(), 5);
        due("LAG", x.count(8), 4);
        due("bid", x.ofLot(0, 5), 70);
        due("undo()", x.undo(), 4);
        due("LAG", x.count(8), 0);
        due("undo()", x.undo(), 3);
        due("bid", x.ofLot(0, 5), 15);
        due("told", x.of(0, 9), 70);
        due("believed", x.of(1, 7), 15);
        due("latest", x.made(0, 1), 15);
        due("undo()", x.undo(), 2);
        due("told", x.of(0, 9), 0);
        due("undo()", x.undo(), 1);
        due("plan", x.of(0, 1), 100);
        due("undo()", x.undo(), 0);
        due("rounds", x.count(0), 0);
        due("it waits", x.ofLot(0, 1), 0);
        due("no bids", x.made(0, 0), NO_SUCH);
        due("the pad stays", x.count(12), 2);
        due("the slot stays", x.restore(1), 1);
        due("recorded", x.count(13), 1);
        due("rounds", x.count(0), 3);
    }

    /** Another way that a hall may go on from any state: nearly all that it holds changes. */
    private static void goOn(EchoBids x) {
        x.set(EchoBids.LAG, 0);
        x.set(EchoBids.STEP, 11);
        x.set(EchoBids.QUIET, 1);
        x.set(EchoBids.PRICE, 0);
        x.plan(0, 3);
        x.bidder(77, 100);
        x.lot(5);
        x.bid(0, 222);
        x.pass(1);
        x.bid(2, 333);
        x.bid(1, 1);
        x.pass(50);
        x.bid(1, 9);
    }

    private static void change(EchoBids x, int which) {
        switch (which) {
            case 0: x.bidder(1, 2); break;
            case 1: x.plan(0, 1); break;
            case 2: x.lot(999); break;
            case 3: x.bid(0, 5); break;
            case 4: x.pass(9); break;
            case 5: Halls.carry(x, "t1;+4*4;l4;b1=4;t40"); break;
            case 6: x.restore(0); break;
            default: x.set(which - 7, which == 10 ? 0 : 5);
        }
    }

    private static void undoesEachChange() {
        CHECK.part("each change is undone");
        String before = Halls.tale(undisturbed());
        EchoBids same = undisturbed();
        goOn(same);
        String after = Halls.tale(same);
        for (int which = 0; which < 11; which++) {
            EchoBids x = undisturbed();
            change(x, which);
            CHECK.holds("change " + which + " changes it", !Halls.tale(x).equals(before));
            x.undo();
            CHECK.holds("change " + which + " is undone", Halls.tale(x).equals(before));
            x = undisturbed();
            change(x, which);
            x.undo();
            goOn(x);
            CHECK.holds("it goes on as if change " + which + " had not been", Halls.tale(x).equals(after));
        }
    }

    private static EchoBids undisturbed() {
        EchoBids x = Halls.busy();
        x.wipe();
        return x;
    }

    /** Two ways from one beginning, saved in a slot each, which then come back in turns; it stops behind so many steps. */
    private static EchoBids twoWays(boolean far, int steps) {
        EchoBids x = new EchoBids();
        x.lot(1);
        Halls.carry(x, "+1000*50;+2000*30;l40;l80;l160;t2");
        x.save(0);
        x.bid(0, 500);
        x.pass(far ? 90 : 3);
        x.save(1);
        for (int step = 1; step <= steps; step++) {
            switch (step) {
                case 1: x.restore(0); goOn(x); goOn(x); x.save(0); break;
                case 2: x.restore(1); break;
                case 3: x.restore(0); break;
                default: x.undo();
            }
        }
        return x;
    }

    /** What was saved comes back over a state that is different everywhere. */
    private static void restoresAll() {
        CHECK.part("all of it is restored");
        for (boolean far : new boolean[] {true, false}) {
            String one = Halls.tale(twoWays(far, 0));
            String other = Halls.tale(twoWays(far, 1));
            CHECK.holds("the two ways differ", !one.equals(other));
            CHECK.holds("the first way", Halls.tale(twoWays(far, 2)).equals(one));
            CHECK.holds("the other way", Halls.tale(twoWays(far, 3)).equals(other));
            CHECK.holds("the first way by undo", Halls.tale(twoWays(far, 4)).equals(one));
            CHECK.holds("the other way by undo", Halls.tale(twoWays(far, 5)).equals(other));
        }
    }

    private static void historyAfterErrors() {
        CHECK.part("a failed change drops nothing");
        EchoBids x = new EchoBids();
        for (int k = 0; k < 6; k++) {
            x.set(EchoBids.STEP, 10 + k);
        }
        for (int k = 0; k < 9; k++) {
            x.set(EchoBids.STEP, 0);
            x.pass(0);
            x.restore(0);
        }
        for (int k = 0; k < 6; k++) {
            x.undo();
        }
        due("STEP", x.count(9), 5);
        x.set(EchoBids.STEP, 20);
        x.undo();
        x.set(EchoBids.STEP, 30);
        due("one is kept", x.count(13), 1);
        x.undo();
        due("STEP", x.count(9), 5);
    }

    private static void promise22() {
        CHECK.part("promise 22");
        EchoBids x = new EchoBids();
        due("save(-1)", x.save(-1), BAD_VALUE);
        due("save(2)", x.save(2), BAD_VALUE);
        due("save(0)", x.save(0), 0);
        x.lot(5);
        due("save(1)", x.save(1), 1);
        x.lot(6);
        due("save(0)", x.save(0), 2);
        due("no changes", x.count(13), 2);
        x.undo();
        x.undo();
        due("restore(0)", x.restore(0), 2);
        due("restore(1)", x.restore(1), 1);
    }

    private static void promise23() {
        CHECK.part("promise 23");
        EchoBids x = new EchoBids();
        due("restore(-1)", x.restore(-1), BAD_VALUE);
        due("restore(2)", x.restore(2), BAD_VALUE);
        due("restore(0)", x.restore(0), NOT_POSSIBLE);
        x.bidder(80, 100);
        x.bidder(70, 100);
        x.lot(40);
        x.set(EchoBids.LAG, 0);
        x.pass(2);
        x.bid(1, 60);
        x.save(0);
        int ends = x.endsIn();
        x.pass(50);
        x.set(EchoBids.LAG, 5);
        x.bidder(1, 1);
        x.lot(3);
        Halls.putAll(x, "l1");
        due("restore(1)", x.restore(1), NOT_POSSIBLE);
        due("restore(0)", x.restore(0), 1);
        due("bidders", x.count(1), 2);
        due("LAG", x.count(8), 0);
        due("rounds", x.count(0), 2);
        due("told", x.of(1, 9), 60);
        due("believed", x.of(0, 7), 10);
        due("endsIn()", x.endsIn(), ends);
        due("the pad stays", x.count(12), 2);
        x.pass(1);
        due("restore(0) again", x.restore(0), 1);
        due("rounds", x.count(0), 2);
        due("a new bidder has nothing of one that is gone", x.bidder(5, 5), 2);
        due("lots", x.of(2, 2), 0);
        due("bids", x.of(2, 5), 0);
        due("believed", x.of(2, 8), 1);
        due("a restored state is not the slot's own", x.restore(0), 1);
        due("bidders", x.count(1), 2);
    }

    public static void main(String[] args) {
        constants();
        promise1();
        promise2();
        promise3();
        promise4();
        promise5();
        promise6();
        promise7();
        firstPrice();
        secondPrice();
        lags();
        lagChanges();
        limits();
        quiet();
        shadowRules();
        ties();
        lotAfterLot();
        promise8();
        promise9();
        promise10();
        promise11();
        promise12();
        promise13();
        promise14();
        promise15();
        promise16();
        promise17();
        promise18();
        promise19();
        promise20();
        promise21();
        undoesEachChange();
        restoresAll();
        historyAfterErrors();
        promise22();
        promise23();
        CHECK.finish("promises");
    }
}
