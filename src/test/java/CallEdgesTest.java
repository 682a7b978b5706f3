/** The edges that the promises themselves and the section "Texts" name, a test for each sentence: calls that are answered. */
public final class CallEdgesTest {
    private static final Check CHECK = new Check();
    private static final int NONE = EchoBids.NONE, NO_SUCH = EchoBids.NO_SUCH, BAD_TEXT = EchoBids.BAD_TEXT,
        NOT_POSSIBLE = EchoBids.NOT_POSSIBLE;

    private static void due(String call, long got, long want) {
        CHECK.due(call, got, want);
    }

    private static void newObject() {
        CHECK.part("promise 1: a hall without bidders and lots");
        EchoBids x = new EchoBids();
        due("bidders", x.count(1), 0);
        due("lots", x.count(2), 0);
        due("rounds", x.count(0), 0);
        due("shadows()", x.shadows(), 0);
        due("dear()", x.dear(), 0);
        due("endsIn()", x.endsIn(), NONE);
        due("fault()", x.fault(), 0);
        due("changes", x.count(13), 0);
        CHECK.part("promise 1: two objects share nothing");
        EchoBids other = new EchoBids();
        x.bidder(5, 5);
        x.lot(5);
        x.set(EchoBids.STEP, 50);
        x.pass(1);
        x.save(0);
        x.put('t');
        due("bidders", other.count(1), 0);
        due("lots", other.count(2), 0);
        due("STEP", other.count(9), 5);
        due("rounds", other.count(0), 0);
        due("pad", other.count(12), 0);
        due("changes", other.count(13), 0);
        due("slot", other.restore(0), NOT_POSSIBLE);
        CHECK.part("512 calls");
        for (int call = 15; call < 512; call++) {
            x.set(EchoBids.STEP, 1 + call % 99);
        }
        due("the last of 512 calls", x.count(9), 1 + 511 % 99);
    }

    private static void comers() {
        CHECK.part("promise 3: the ends of both ranges");
        EchoBids x = new EchoBids();
        int[][] pairs = {{0, 0}, {0, 200}, {9999, 0}, {9999, 200}};
        for (int b = 0; b < 4; b++) {
            due("number", x.bidder(pairs[b][0], pairs[b][1]), b);
            due("purse", x.of(b, 0), pairs[b][0]);
            due("plan", x.of(b, 1), pairs[b][1]);
        }
        CHECK.part("promise 3: a bidder that comes while a lot runs");
        x = Halls.hall(0, 5, 9, 0);
        x.bidder(99, 100);
        x.lot(50);
        x.pass(1);
        x.bidder(99, 100);
        due("it hears what was bid", x.of(1, 8), 0);
        x.pass(1);
        due("it bids", x.ofLot(0, 6), 1);
        CHECK.part("promise 4: the ends of the range, the same plan again");
        due("plan(0, 0)", x.plan(0, 0), 100);
        due("plan(0, 200)", x.plan(0, 200), 0);
        due("plan(0, 200)", x.plan(0, 200), 200);
        due("of(0, 1)", x.of(0, 1), 200);
        due("no other plan", x.of(1, 1), 100);
        CHECK.part("promise 6: the ends of the range, in place of what it was told");
        due("bid(0, 1)", x.bid(0, 1), 0);
        due("bid(0, 9999)", x.bid(0, 9999), 1);
        due("bid(0, 1)", x.bid(0, 1), 9999);
        due("of(0, 9)", x.of(0, 9), 1);
        due("the other is told nothing", x.of(1, 9), 0);
    }

    private static void rounds() {
        CHECK.part("promise 7: 1 to 99 rounds");
        EchoBids x = new EchoBids();
        due("pass(1)", x.pass(1), 0);
        due("rounds", x.count(0), 1);
        due("pass(99)", x.pass(99), 0);
        due("rounds", x.count(0), 100);
        CHECK.part("promise 7: 9999 rounds are possible");
        x = Halls.late(9998);
        due("pass(1)", x.pass(1), 0);
        due("rounds", x.count(0), 9999);
        x = Halls.late(9900);
        due("pass(99)", x.pass(99), 1);
        due("rounds", x.count(0), 9999);
        CHECK.part("promise 7: behind 9999 rounds the rest still answers");
        due("a lot", x.lot(40), 1);
        due("it waits for ever", x.pass(1), NOT_POSSIBLE);
        due("it waits", x.ofLot(1, 1), 0);
        due("undo()", x.undo(), 5);
        due("undo()", x.undo(), 4);
        due("rounds", x.count(0), 9900);
        due("pass(98)", x.pass(98), 1);
        CHECK.part("promise 7: how many lots end");
        x = Halls.planless(0, 8);
        due("pass(7)", x.pass(7), 7);
        due("pass(1)", x.pass(1), 1);
        due("pass(99)", x.pass(99), 0);
        x = Halls.planless(0, 8);
        due("pass(99)", x.pass(99), 8);
        due("none is sold", x.count(4), 0);
    }

    private static void ofUntouched() {
        CHECK.part("promise 8: a bidder that did nothing yet");
        EchoBids x = new EchoBids();
        x.bidder(70, 30);
        int[] bidder = {70, 30, 0, 0, 0, 0, 0, 0, NONE, 0};
        for (int what = 0; what < 10; what++) {
            due("of(0, " + what + ")", x.of(0, what), bidder[what]);
        }
        CHECK.part("promise 9: a lot that did not run yet");
        x.lot(999);
        int[] lot = {999, 0, NONE, NONE, 0, 0, NONE};
        for (int what = 0; what < 7; what++) {
            due("ofLot(0, " + what + ")", x.ofLot(0, what), lot[what]);
        }
        CHECK.part("promise 8: of several lots together");
        x = Halls.planless(2, 0);
        x.lot(7);
        x.lot(20);
        x.lot(300);
        x.bid(0, 11);
        x.pass(2);
        x.bid(1, 12);
        x.pass(2);
        x.bid(0, 13);
        x.pass(2);
        due("lots", x.of(0, 2), 5);
        due("paid", x.of(0, 3), 24);
        due("worth", x.of(0, 4), 307);
        due("bids", x.of(0, 5), 2);
        due("purse", x.of(0, 0), 9975);
        due("all paid", x.count(5), 36);
        due("dear()", x.dear(), Double.doubleToLongBits(36.0 / 327.0));
        due("the highest stays behind the end", x.ofLot(0, 5), 11);
        due("whose", x.ofLot(1, 6), 1);
    }

    /** Behind so many rounds of a duel one bid more than rounds is made: both bid 1 in the first round. */
    private static void known(int rounds) {
        CHECK.part("promise 10: the latest 40 are known, behind " + rounds + " rounds");
        EchoBids x = Halls.duel(500, 200);
        for (int left = rounds; left > 0; left -= 99) {
            x.pass(Math.min(left, 99));
        }
        int bids = Math.min(rounds + 1, 40);
        for (int ago = 0; ago < bids; ago++) {
            boolean first = ago == rounds;
            due("bidder " + ago, x.made(ago, 0), first ? 0 : ago == rounds - 1 ? 1 : (rounds - 1 - ago) % 2);
            due("coins " + ago, x.made(ago, 1), first ? 1 : rounds - ago);
            due("round " + ago, x.made(ago, 2), first ? 0 : rounds - 1 - ago);
        }
        due("no other", x.made(bids, 0), NO_SUCH);
        due("bids so far", x.count(6), rounds + 1);
        x.save(0);
        x.wipe();
        x.pass(1);
        x.undo();
        due("the earliest that is known comes back", x.made(bids - 1, 1), Math.max(1, rounds - bids + 1));
        due("the latest too", x.made(0, 1), rounds);
    }

    private static void madeBids() {
        for (int rounds : new int[] {1, 2, 38, 39, 40, 41, 78, 79, 80, 81, 119, 120, 200}) {
            known(rounds);
        }
        CHECK.part("promise 10: of the lot that runs, or ran last");
        EchoBids x = Halls.planless(2, 2);
        x.pass(1);
        due("a lot without a bid ran last", x.made(0, 0), NO_SUCH);
        x = Halls.planless(2, 2);
        x.bid(1, 6);
        x.pass(2);
        due("it ran last, the other one waits", x.made(0, 1), 6);
        x.set(EchoBids.QUIET, 2);
        x.pass(1);
        due("the other one runs", x.made(0, 1), NO_SUCH);
        x.pass(1);
        due("the other one, without a bid, ran last", x.made(0, 1), NO_SUCH);
        due("the bids still count", x.count(6), 1);
    }

    private static void counts() {
        CHECK.part("promise 11: how many changes can be undone");
        EchoBids x = new EchoBids();
        for (int changes = 0; changes < 9; changes++) {
            due("changes", x.count(13), Math.min(changes, 6));
            x.pass(1);
        }
        CHECK.part("promise 11: the length of the pad");
        for (int length = 0; length < 80; length++) {
            due("length", x.count(12), length);
            x.put('z');
        }
        due("full", x.count(12), 80);
        CHECK.part("promise 11: the lot that runs, the first and the last");
        x = Halls.planless(0, 8);
        x.set(EchoBids.QUIET, 2);
        due("none", x.count(3), NONE);
        for (int lot = 0; lot < 8; lot++) {
            x.pass(1);
            due("the lot that runs", x.count(3), lot);
            x.pass(1);
            due("none", x.count(3), NONE);
        }
    }

    private static void shares() {
        CHECK.part("promise 12: of 0.0f without bids");
        EchoBids x = Halls.planless(1, 1);
        due("without rounds", x.shadows(), Float.floatToIntBits(0.0f));
        x.set(EchoBids.QUIET, 9);
        x.pass(1);
        due("behind a round without a bid", x.shadows(), Float.floatToIntBits(0.0f));
        x.bid(0, 50);
        x.pass(1);
        due("0 of 1", x.shadows(), Float.floatToIntBits(0.0f));
        x.bid(0, 50);
        x.pass(1);
        due("1 of 2", x.shadows(), 0x3F000000);
        x.bid(0, 51);
        x.pass(1);
        due("1 of 3", x.shadows(), 0x3EAAAAAB);
        x.bid(0, 51);
        x.pass(1);
        x.bid(0, 51);
        x.pass(1);
        due("3 of 5", x.shadows(), 0x3F19999A);
        CHECK.part("promise 13: of 0.0 if these worths together are 0");
        x = Halls.planless(1, 0);
        due("no lots", x.dear(), 0L);
        x.lot(0);
        x.lot(999);
        x.lot(1);
        x.lot(3);
        x.bid(0, 70);
        x.pass(2);
        due("70 coins for a worth of 0", x.dear(), 0L);
        x.pass(1);
        due("a lot that is not sold has no part", x.dear(), 0L);
        x.bid(0, 29);
        x.pass(1);
        due("a lot that is not sold yet has none", x.dear(), 0L);
        x.pass(1);
        due("99 for 1", x.dear(), Double.doubleToLongBits(99.0));
        x.bid(0, 1);
        x.pass(2);
        due("100 for 4", x.dear(), Double.doubleToLongBits(25.0));
        CHECK.part("promise 13: the dearest and the cheapest lots");
        due("9999 for 1", dearOf(9999, 1), Double.doubleToLongBits(9999.0));
        due("1 for 999", dearOf(1, 999), Double.doubleToLongBits(1.0 / 999.0));
        due("1 for 1", dearOf(1, 1), Double.doubleToLongBits(1.0));
        due("9999 for 9999 / 11", dearOf(9999, 909), Double.doubleToLongBits(11.0));
    }

    private static long dearOf(int coins, int worth) {
        EchoBids x = Halls.planless(1, 0);
        x.lot(worth);
        x.bid(0, coins);
        x.pass(2);
        return x.dear();
    }

    private static void endings() {
        CHECK.part("promise 14: NONE if no lot runs or waits");
        due("no lots", new EchoBids().endsIn(), NONE);
        EchoBids x = Halls.planless(1, 1);
        due("one waits", x.endsIn(), 1);
        x.pass(1);
        due("it is over", x.endsIn(), NONE);
        CHECK.part("promise 14: NONE if it takes more than 500");
        due("500", Halls.duel(499, 100).endsIn(), 500);
        due("501", Halls.duel(500, 100).endsIn(), NONE);
        x = Halls.duel(500, 100);
        x.pass(1);
        due("a round less to go", x.endsIn(), 500);
        CHECK.part("promise 14: the next lot, if nothing else is done");
        x = Halls.planless(1, 2);
        x.set(EchoBids.QUIET, 3);
        x.pass(2);
        due("the one that runs", x.endsIn(), 1);
        x.pass(1);
        due("the one that waits", x.endsIn(), 3);
        x.bid(0, 1);
        due("what is told is done", x.endsIn(), 4);
        due("and is told still", x.of(0, 9), 1);
        due("no round passed", x.count(0), 3);
        CHECK.part("promises 14 to 16: the bound of rounds does not matter");
        x = Halls.late(9999);
        int ends = Halls.late(0).endsIn();
        due("endsIn()", x.endsIn(), ends);
        due("ifLag(2)", x.ifLag(2), Halls.late(0).ifLag(2));
        due("it is sold", x.ifLag(2) > 0 ? 1 : 0, 1);
        due("bestPlan(0, 0)", x.bestPlan(0, 0), Halls.late(0).bestPlan(0, 0));
        due("bestPlan(0, 1)", x.bestPlan(0, 1), Halls.late(0).bestPlan(0, 1));
        due("it gains", x.bestPlan(0, 1) > 100000 ? 1 : 0, 1);
    }

    private static void lags() {
        CHECK.part("promise 15: nothing to sell");
        for (int lag = 0; lag <= 5; lag++) {
            due("no lots", new EchoBids().ifLag(lag), 0);
            due("lots without bidders", Halls.planless(0, 8).ifLag(lag), 0);
        }
        CHECK.part("promise 15: lots that end within 1000 rounds");
        due("1000", Halls.duel(999, 100).ifLag(0), 999);
        due("1001", Halls.duel(500, 200).ifLag(0), 0);
        EchoBids x = Halls.duel(10, 100);
        x.lot(999);
        due("11 rounds and 1000 rounds", x.ifLag(0), 10);
        x = Halls.duel(10, 100);
        x.lot(988);
        due("11 rounds and 989 rounds", x.ifLag(0), 998);
        CHECK.part("promise 15: for lots that run or wait");
        x = Halls.planless(1, 2);
        x.bid(0, 40);
        x.pass(2);
        x.bid(0, 9);
        due("not for those that are sold", x.ifLag(1), 9);
        x.pass(1);
        due("for one that runs", x.ifLag(1), 9);
        x.pass(1);
        due("all are sold", x.ifLag(1), 0);
        CHECK.part("promise 15: with another LAG, from the next round on");
        x = Halls.planless(2, 1);
        x.bid(0, 20);
        x.pass(1);
        x.set(EchoBids.LAG, 5);
        x.plan(1, 24);
        due("with the plan 24 it never bids 25", x.ifLag(0), 20);
        x.plan(1, 25);
        due("with the plan 25 it does", x.ifLag(0), 25);
        due("LAG stays", x.count(8), 5);
        // Bidder 1 bids 5 first, then 12 and STEP if it hears that alone, but 14 and STEP if it hears both at once.
        x = Halls.planless(2, 1);
        x.set(EchoBids.LAG, 5);
        x.plan(1, 50);
        x.bid(0, 12);
        x.pass(1);
        x.bid(0, 14);
        x.pass(1);
        int[] coins = {19, 17, 17, 17, 17, 17};
        for (int lag = 0; lag <= 5; lag++) {
            due("ifLag(" + lag + ")", x.ifLag(lag), coins[lag]);
        }
    }

    private static void plans() {
        CHECK.part("promise 16: the least and the greatest gain");
        EchoBids x = Halls.hall(0, 1, 1, 0);
        x.bidder(9999, 0);
        for (int l = 0; l < 8; l++) {
            x.lot(999);
        }
        due("8 lots for 1 each", x.bestPlan(0, 1), 100000 + 8 * 998);
        due("the least plan that does it", x.bestPlan(0, 0), 10);
        x = Halls.planless(1, 0);
        x.lot(0);
        x.bid(0, 9999);
        due("9999 for nothing", x.bestPlan(0, 1), 100000 - 9999);
        due("no plan helps", x.bestPlan(0, 0), 0);
        CHECK.part("promise 16: from 0 to 200");
        x = Halls.planless(1, 0);
        due("no lots, the plan", x.bestPlan(0, 0), 0);
        due("no lots, the gain", x.bestPlan(0, 1), 100000);
        due("a plan of 200 is tried", Halls.rivals().bestPlan(1, 0), 200);
        due("100 less 10", Halls.rivals().bestPlan(1, 1), 100090);
        CHECK.part("promise 16: multiples of 10, of several the least one");
        due("STEP 1 of 100 needs 1", bestFor(1), 10);
        due("STEP 10 of 100 needs 10", bestFor(10), 10);
        due("STEP 11 of 100 needs 11", bestFor(11), 20);
        due("STEP 99 of 100 needs 99", bestFor(99), 100);
        CHECK.part("promise 16: only lots that run or wait");
        x = Halls.planless(1, 2);
        x.bid(0, 60);
        x.pass(2);
        due("the gain of 40 is over", x.bestPlan(0, 1), 100095);
        x.bid(0, 110);
        x.pass(1);
        due("the one that runs is a loss", x.bestPlan(0, 1), 99990);
        x.pass(1);
        due("all is over", x.bestPlan(0, 1), 100000);
        CHECK.part("promise 16: within 1000 rounds");
        due("1000", Halls.queue(2, 7, 98).bestPlan(0, 1), 100020);
        due("1001", Halls.queue(6, 6, 96).bestPlan(0, 1), 100000);
    }

    private static int bestFor(int step) {
        EchoBids x = Halls.hall(0, step, 1, 0);
        x.bidder(9999, 0);
        x.lot(100);
        return x.bestPlan(0, 0);
    }

    private static void pad() {
        CHECK.part("promise 17: codes 33 to 126");
        for (int code = 33; code <= 126; code++) {
            EchoBids x = new EchoBids();
            due("alone: " + code, x.put(code), 1);
            due("eight: " + code, x.put(code * 0x0101010101010101L), 9);
        }
        CHECK.part("promise 17: 1 to 8 characters");
        EchoBids x = new EchoBids();
        long characters = 0;
        for (int many = 1; many <= 8; many++) {
            characters = characters << 8 | 't';
            due(many + " characters", x.put(characters), many * (many + 1) / 2);
        }
        CHECK.part("promise 17: a pad of 80");
        for (int many = 1; many <= 8; many++) {
            x = new EchoBids();
            Halls.putAll(x, "t".repeat(80 - many));
            due("the last " + many, x.put(0x7474747474747474L >>> 8 * (8 - many)), 80);
        }
        CHECK.part("promise 17: the lowest 8 bits are the last character");
        x = new EchoBids();
        x.put('t' << 8 | '7');
        due("t7", x.carryOut(), 1);
        due("rounds", x.count(0), 7);
        CHECK.part("promise 18: the length that it had");
        x = Halls.full();
        due("full", x.wipe(), 80);
        due("empty", x.wipe(), 0);
        due("count(12)", x.count(12), 0);
        x.put('x');
        due("one", x.wipe(), 1);
        due("the next ones begin anew", Halls.putAll(x, "t1"), 2);
        due("fault()", x.fault(), NONE);
        CHECK.part("promise 18: nothing of what was there is read behind the new end");
        String[][] pairs = {{"t1234", "t1"}, {"t9;l7;l8", "t1"}, {"b1=5", "b1="}, {"+1*2", "+1"}, {"t1", "t"}, {"l5;l5", "l5;"}};
        int[] faults = {NONE, NONE, 3, 2, 1, 3};
        for (int at = 0; at < pairs.length; at++) {
            x = new EchoBids();
            Halls.putAll(x, pairs[at][0]);
            x.wipe();
            Halls.putAll(x, pairs[at][1]);
            due(pairs[at][1] + " behind " + pairs[at][0], x.fault(), faults[at]);
            due("orders", x.carryOut(), faults[at] == NONE ? 1 : BAD_TEXT);
            due("rounds", x.count(0), faults[at] == NONE ? 1 : 0);
        }
        CHECK.part("promise 20: nothing of what was carried out is read behind the new end");
        x = new EchoBids();
        Halls.carry(x, "t1234");
        Halls.carry(x, "t1");
        due("rounds", x.count(0), 1);
    }

    private static int faultOf(String text) {
        EchoBids x = new EchoBids();
        Halls.putAll(x, text);
        return x.fault();
    }

    private static void faults() {
        CHECK.part("promise 19: the length if the text ends too early, also if it is empty");
        due("empty", faultOf(""), 0);
        for (String text : new String[] {"+", "+1", "+1*", "l", "b", "b1", "b1=", "t", "t1;", "t1;+", "l0;l0;"}) {
            due(text, faultOf(text), text.length());
        }
        due("80 characters and no end", faultOf("l12;".repeat(20)), 80);
        CHECK.part("promise 19: NONE if there is none");
        for (String text : new String[] {"+0*0", "+9999*9999", "l0", "l9999", "b0=0", "b9=9999", "t0", "t9999", "t10", "t100", "t1000"}) {
            due(text, faultOf(text), NONE);
            due("twice " + text, faultOf(text + ";" + text), NONE);
        }
        due("80 characters", faultOf("t1;".repeat(26) + "t1"), NONE);
        due("80 characters, a long last one", faultOf("l1234;".repeat(12) + "b7=12345".substring(0, 7)), NONE);
        CHECK.part("promise 19: the first character that cannot stand at its place");
        due("no order", faultOf("a1"), 0);
        due("a digit", faultOf("1"), 0);
        due("no order behind ;", faultOf("t1;=1"), 3);
        due("a second ;", faultOf("t1;;t1"), 3);
        due("no ; between two orders", faultOf("t1t1"), 2);
        due("no number", faultOf("l;"), 1);
        due("no number behind *", faultOf("+1*;"), 3);
        due("= for *", faultOf("+1=1"), 2);
        due("* for =", faultOf("b1*1"), 2);
        due("a number for a digit", faultOf("b10=1"), 2);
        due("no digit", faultOf("b=1"), 1);
        due("of several the first", faultOf("tx;ly"), 1);
        due("at the 80th place", faultOf("t1;".repeat(26) + "tt"), 79);
        CHECK.part("promise 19: a digit by which a number would be above 9999");
        due("l10000", faultOf("l10000"), 5);
        due("l99999", faultOf("l99999"), 5);
        due("+10000*1", faultOf("+10000*1"), 5);
        due("+1*10000", faultOf("+1*10000"), 7);
        due("b1=10000", faultOf("b1=10000"), 7);
        due("t1;t10000", faultOf("t1;t10000"), 8);
        due("80 digits", faultOf("t" + "9".repeat(79)), 5);
        CHECK.part("promise 19: without leading zeros");
        due("l00", faultOf("l00"), 2);
        due("l01", faultOf("l01"), 2);
        due("+00*1", faultOf("+00*1"), 2);
        due("+1*01", faultOf("+1*01"), 4);
        due("b1=01", faultOf("b1=01"), 4);
        due("b0=1 is a digit", faultOf("b0=1"), NONE);
        due("t09", faultOf("t09"), 2);
    }

    /** Orders of which the third one fails, in a hall of 5 bidders and 7 lots: how many are carried out. */
    private static void failing(String order, int bidders, int lots) {
        EchoBids x = new EchoBids();
        Halls.carry(x, "+9*9;+9*9;+9*9;+9*9;+9*9;l5;l5;l5;l5;l5;l5;l5");
        due("at the third place: " + order, Halls.carry(x, "+8*8;l7;" + order + ";t1"), 2);
        due("bidders", x.count(1), 6);
        due("lots", x.count(2), 8);
        due("what comes behind it is not done", x.count(0), 0);
        due("the pad is empty", x.count(12), 0);
        due("a change", x.count(13), 2);
        due("at the first place: " + order, Halls.carry(x, order + ";t1"), 0);
        due("not done", x.count(0), 0);
        due("a change too", x.count(13), 3);
        due("at the last place: " + order, Halls.carry(x, "t1;" + order), 1);
        due("done", x.count(0), 1);
        due("undo()", x.undo(), 3);
        due("undo()", x.undo(), 2);
        due("undo()", x.undo(), 1);
        due("bidders are as they were", x.count(1), bidders);
        due("lots are as they were", x.count(2), lots);
    }

    private static void orders() {
        CHECK.part("promise 20: up to the first one that returns an error");
        for (String order : new String[] {"+8*8", "+10*201", "l7", "l1000", "b6=5", "b9=1", "b0=0", "t0", "t100", "t9999"}) {
            failing(order, 5, 7);
        }
        CHECK.part("promise 20: an order goes up to 9999 rounds");
        EchoBids x = Halls.late(9990);
        due("9 rounds and 1", Halls.carry(x, "t9;t1;l5"), 1);
        due("rounds", x.count(0), 9999);
        due("no lot came", x.count(2), 1);
        CHECK.part("promise 20: a text of 80 characters");
        x = Halls.full();
        due("27 orders", x.carryOut(), 27);
        due("rounds", x.count(0), 18 + 27);
        due("the pad is empty", x.carryOut(), BAD_TEXT);
        CHECK.part("promise 20: one change, with all of them");
        due("undo()", x.undo(), 2);
        due("rounds", x.count(0), 18);
        due("the pad stays empty", x.count(12), 0);
    }

    private static void history() {
        CHECK.part("promise 21: at most 6 states, the oldest is dropped");
        for (int changes = 1; changes <= 22; changes++) {
            EchoBids x = new EchoBids();
            for (int k = 0; k < changes; k++) {
                x.pass(k + 1);
            }
            int kept = Math.min(changes, 6);
            for (int back = 1; back <= kept; back++) {
                due("undo()", x.undo(), kept - back);
                due("rounds", x.count(0), (changes - back) * (changes - back + 1) / 2);
            }
            due("no more", x.undo(), NOT_POSSIBLE);
        }
        CHECK.part("promise 21: also if nothing is different then");
        EchoBids x = new EchoBids();
        x.bidder(5, 5);
        x.set(EchoBids.STEP, 5);
        x.plan(0, 5);
        x.bid(0, 3);
        x.bid(0, 3);
        due("each is recorded", x.count(13), 5);
        x.save(0);
        x.restore(0);
        due("restore too", x.count(13), 6);
        for (int left = 5; left >= 0; left--) {
            due("undo()", x.undo(), left);
        }
        due("no bidder", x.count(1), 0);
        CHECK.part("promise 21: what is no change records nothing");
        x = Halls.full();
        int kept = x.count(13);
        x.of(0, 0);
        x.ofLot(0, 0);
        x.made(0, 0);
        x.shadows();
        x.dear();
        x.endsIn();
        x.ifLag(0);
        x.bestPlan(0, 0);
        x.fault();
        x.save(1);
        x.wipe();
        x.put('t');
        due("changes", x.count(13), kept);
        CHECK.part("promise 21: undo and change in turns");
        x = new EchoBids();
        for (int k = 1; k <= 20; k++) {
            x.pass(k);
            x.pass(50);
            due("undo()", x.undo(), Math.min(k, 5));
            due("rounds", x.count(0), k * (k + 1) / 2);
        }
        CHECK.part("promise 21: everything except the pad, the slots and the history");
        x = new EchoBids();
        x.lot(1);
        x.lot(2);
        x.save(0);
        Halls.putAll(x, "t1");
        x.undo();
        due("lots", x.count(2), 1);
        due("the pad", x.count(12), 2);
        due("the slot", x.restore(0), 2);
    }

    private static void slots() {
        for (int slot = 0; slot < 2; slot++) {
            CHECK.part("promises 22 and 23: slot " + slot);
            EchoBids x = new EchoBids();
            due("save", x.save(slot), 0);
            due("the other one is empty", x.restore(1 - slot), NOT_POSSIBLE);
            for (int l = 0; l < 8; l++) {
                x.lot(l);
            }
            x.set(EchoBids.STEP, 7);
            due("save over it", x.save(slot), 8);
            due("undo()", x.undo(), 5);
            due("undo()", x.undo(), 4);
            due("it keeps what was saved last", x.restore(slot), 8);
            due("settings too", x.count(9), 7);
            due("it is a change", x.count(13), 5);
            due("again", x.restore(slot), 8);
            due("again a change", x.count(13), 6);
            due("undo()", x.undo(), 5);
            due("undo()", x.undo(), 4);
            due("7 lots", x.count(2), 7);
            due("STEP", x.count(9), 5);
            Halls.putAll(x, "t1;t1");
            due("restore", x.restore(slot), 8);
            due("the pad stays", x.count(12), 5);
            due("it is still saved", x.restore(slot), 8);
        }
        CHECK.part("promise 22: the pad is not saved");
        EchoBids x = new EchoBids();
        Halls.putAll(x, "t1");
        x.save(0);
        x.wipe();
        x.restore(0);
        due("the pad", x.count(12), 0);
        CHECK.part("promise 22: the history is not saved");
        x = new EchoBids();
        x.pass(1);
        x.pass(2);
        x.save(0);
        x.undo();
        x.undo();
        due("restore(0)", x.restore(0), 0);
        due("one change", x.count(13), 1);
        x.undo();
        due("rounds", x.count(0), 0);
    }

    public static void main(String[] args) {
        newObject();
        comers();
        rounds();
        ofUntouched();
        madeBids();
        counts();
        shares();
        endings();
        lags();
        plans();
        pad();
        faults();
        orders();
        history();
        slots();
        CHECK.finish("edges of calls");
    }
}
