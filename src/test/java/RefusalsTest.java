/**
 * Every sentence of the document by which a call answers an error, at the edge and far from it. Each refused call
 * is made in a hall of its own, and nothing that the document tells of may differ then from a hall without the call.
 */
public final class RefusalsTest {
    private static final Check CHECK = new Check();
    private static final int NO_SUCH = EchoBids.NO_SUCH, BAD_VALUE = EchoBids.BAD_VALUE, BAD_TEXT = EchoBids.BAD_TEXT,
        TOO_MANY = EchoBids.TOO_MANY, NOT_POSSIBLE = EchoBids.NOT_POSSIBLE;
    private static final int LEAST = Integer.MIN_VALUE, GREATEST = Integer.MAX_VALUE;

    private interface Maker {
        EchoBids make();
    }

    private interface Call {
        int on(EchoBids x);
    }

    /** A call with one argument, or with two. */
    private interface One {
        int on(EchoBids x, int argument);
    }

    private interface Two {
        int on(EchoBids x, int first, int second);
    }

    private static void refused(String name, int want, Maker maker, Call call) {
        EchoBids x = maker.make();
        CHECK.due(name, call.on(x), want);
        CHECK.holds(name + " changes nothing", Halls.wholeTale(x).equals(Halls.wholeTale(maker.make())));
    }

    private static void refuseEach(int want, Maker maker, One call, int... arguments) {
        for (int argument : arguments) {
            refused("with " + argument, want, maker, x -> call.on(x, argument));
        }
    }

    private static void refusePairs(int want, Maker maker, Two call, int[][] pairs) {
        for (int[] pair : pairs) {
            refused("with " + pair[0] + ", " + pair[1], want, maker, x -> call.on(x, pair[0], pair[1]));
        }
    }

    /** Pairs of one of these with that. */
    private static int[][] with(int[] firsts, int second) {
        int[][] pairs = new int[firsts.length][];
        for (int at = 0; at < firsts.length; at++) {
            pairs[at] = new int[] {firsts[at], second};
        }
        return pairs;
    }

    private static int[][] with(int first, int[] seconds) {
        int[][] pairs = new int[seconds.length][];
        for (int at = 0; at < seconds.length; at++) {
            pairs[at] = new int[] {first, seconds[at]};
        }
        return pairs;
    }

    private static int[] outside(int least, int most) {
        return new int[] {least - 1, most + 1, LEAST, LEAST + 1, GREATEST - 1, GREATEST};
    }

    private static EchoBids mute() {
        EchoBids x = Halls.busy();
        x.wipe();
        return x;
    }

    /** A pad that is full up to so many characters. */
    private static EchoBids padOf(int length) {
        EchoBids x = Halls.busy();
        x.wipe();
        Halls.putAll(x, "t".repeat(length));
        return x;
    }

    private static EchoBids unsaved() {
        EchoBids x = new EchoBids();
        x.bidder(50, 100);
        x.lot(30);
        x.pass(1);
        return x;
    }

    private static void settings() {
        CHECK.part("promise 2: BAD_VALUE if there is no such setting");
        refusePairs(BAD_VALUE, Halls::busy, EchoBids::set, with(outside(0, 3), 1));
        CHECK.part("promise 2: BAD_VALUE if the value is out of its range");
        refusePairs(BAD_VALUE, Halls::busy, EchoBids::set, with(EchoBids.LAG, outside(0, 5)));
        refusePairs(BAD_VALUE, Halls::busy, EchoBids::set, with(EchoBids.STEP, outside(1, 99)));
        refusePairs(BAD_VALUE, Halls::busy, EchoBids::set, with(EchoBids.QUIET, outside(1, 9)));
        refusePairs(BAD_VALUE, Halls::busy, EchoBids::set, with(EchoBids.PRICE, outside(0, 1)));
        CHECK.part("promise 2: neither a setting nor a value");
        refusePairs(BAD_VALUE, Halls::busy, EchoBids::set, new int[][] {{4, 100}, {-1, -1}, {LEAST, GREATEST}});
    }

    private static void bidders() {
        CHECK.part("promise 3: BAD_VALUE if an argument is out of range (purse)");
        refusePairs(BAD_VALUE, Halls::busy, EchoBids::bidder, with(outside(0, 9999), 100));
        CHECK.part("promise 3: BAD_VALUE if an argument is out of range (plan)");
        refusePairs(BAD_VALUE, Halls::busy, EchoBids::bidder, with(100, outside(0, 200)));
        CHECK.part("promise 3: TOO_MANY if there are 6 bidders");
        refusePairs(TOO_MANY, Halls::full, EchoBids::bidder, new int[][] {{0, 0}, {9999, 200}, {5, 5}});
        CHECK.part("promise 3: BAD_VALUE ahead of TOO_MANY");
        refusePairs(BAD_VALUE, Halls::full, EchoBids::bidder, new int[][] {{-1, 0}, {10000, 0}, {0, -1}, {0, 201}});
    }

    private static void plans() {
        CHECK.part("promise 4: NO_SUCH if there is no such bidder");
        refusePairs(NO_SUCH, Halls::busy, EchoBids::plan, with(outside(0, 2), 100));
        refusePairs(NO_SUCH, Halls::full, EchoBids::plan, with(outside(0, 5), 100));
        refusePairs(NO_SUCH, EchoBids::new, EchoBids::plan, with(0, new int[] {0, 100, 200}));
        CHECK.part("promise 4: BAD_VALUE if plan is out of range");
        refusePairs(BAD_VALUE, Halls::busy, EchoBids::plan, with(2, outside(0, 200)));
        CHECK.part("promise 4: NO_SUCH ahead of BAD_VALUE");
        refusePairs(NO_SUCH, Halls::busy, EchoBids::plan, with(3, outside(0, 200)));
    }

    private static void lots() {
        CHECK.part("promise 5: BAD_VALUE if worth is out of range");
        refuseEach(BAD_VALUE, Halls::busy, EchoBids::lot, outside(0, 999));
        CHECK.part("promise 5: TOO_MANY if there are 8 lots");
        refuseEach(TOO_MANY, Halls::full, EchoBids::lot, 0, 1, 999);
        CHECK.part("promise 5: BAD_VALUE ahead of TOO_MANY");
        refuseEach(BAD_VALUE, Halls::full, EchoBids::lot, outside(0, 999));
    }

    private static void bids() {
        CHECK.part("promise 6: NO_SUCH if there is no such bidder");
        refusePairs(NO_SUCH, Halls::busy, EchoBids::bid, with(outside(0, 2), 10));
        refusePairs(NO_SUCH, Halls::full, EchoBids::bid, with(outside(0, 5), 10));
        refusePairs(NO_SUCH, EchoBids::new, EchoBids::bid, new int[][] {{0, 1}, {0, 9999}});
        CHECK.part("promise 6: BAD_VALUE if coins is out of range; what was told stays told");
        refusePairs(BAD_VALUE, Halls::busy, EchoBids::bid, with(1, outside(1, 9999)));
        CHECK.part("promise 6: NO_SUCH ahead of BAD_VALUE");
        refusePairs(NO_SUCH, Halls::busy, EchoBids::bid, with(3, outside(1, 9999)));
    }

    private static void rounds() {
        CHECK.part("promise 7: BAD_VALUE if rounds is out of range");
        refuseEach(BAD_VALUE, Halls::busy, EchoBids::pass, outside(1, 99));
        CHECK.part("promise 7: NOT_POSSIBLE if there would be more than 9999 rounds");
        refuseEach(NOT_POSSIBLE, () -> Halls.late(9999), EchoBids::pass, 1, 2, 99);
        refuseEach(NOT_POSSIBLE, () -> Halls.late(9998), EchoBids::pass, 2, 3, 99);
        refuseEach(NOT_POSSIBLE, () -> Halls.late(9901), EchoBids::pass, 99);
        CHECK.part("promise 7: BAD_VALUE ahead of NOT_POSSIBLE");
        refuseEach(BAD_VALUE, () -> Halls.late(9999), EchoBids::pass, outside(1, 99));
    }

    private static void questions() {
        CHECK.part("promise 8: NO_SUCH if there is no such bidder");
        refusePairs(NO_SUCH, Halls::busy, EchoBids::of, with(outside(0, 2), 0));
        refusePairs(NO_SUCH, Halls::full, EchoBids::of, with(outside(0, 5), 8));
        refusePairs(NO_SUCH, EchoBids::new, EchoBids::of, with(0, new int[] {0, 7, 8, 9}));
        CHECK.part("promise 8: BAD_VALUE if what is out of range");
        refusePairs(BAD_VALUE, Halls::busy, EchoBids::of, with(2, outside(0, 9)));
        CHECK.part("promise 8: NO_SUCH ahead of BAD_VALUE");
        refusePairs(NO_SUCH, Halls::busy, EchoBids::of, with(3, outside(0, 9)));
        CHECK.part("promise 9: NO_SUCH if there is no such lot");
        refusePairs(NO_SUCH, Halls::busy, EchoBids::ofLot, with(outside(0, 3), 2));
        refusePairs(NO_SUCH, Halls::full, EchoBids::ofLot, with(outside(0, 7), 0));
        refusePairs(NO_SUCH, EchoBids::new, EchoBids::ofLot, with(0, new int[] {0, 2, 3, 6}));
        CHECK.part("promise 9: BAD_VALUE if what is out of range");
        refusePairs(BAD_VALUE, Halls::busy, EchoBids::ofLot, with(3, outside(0, 6)));
        CHECK.part("promise 9: NO_SUCH ahead of BAD_VALUE");
        refusePairs(NO_SUCH, Halls::busy, EchoBids::ofLot, with(4, outside(0, 6)));
        CHECK.part("promise 11: BAD_VALUE if what is out of range");
        refuseEach(BAD_VALUE, Halls::busy, EchoBids::count, outside(0, 13));
    }

    /** One bid for the lot that runs. */
    private static EchoBids oneBid() {
        EchoBids x = Halls.planless(1, 1);
        x.bid(0, 7);
        x.pass(1);
        return x;
    }

    private static EchoBids manyBids() {
        EchoBids x = Halls.duel(500, 200);
        x.pass(60);
        return x;
    }

    private static void madeBids() {
        CHECK.part("promise 10: NO_SUCH if there is no such bid");
        refusePairs(NO_SUCH, RefusalsTest::oneBid, EchoBids::made, with(outside(0, 0), 0));
        refusePairs(NO_SUCH, EchoBids::new, EchoBids::made, with(0, new int[] {0, 1, 2, 3}));
        CHECK.part("promise 10: the latest 40 are known, and no other");
        refusePairs(NO_SUCH, RefusalsTest::manyBids, EchoBids::made, with(new int[] {40, 41, 59, 60, LEAST, -1, GREATEST}, 1));
        CHECK.part("promise 10: BAD_VALUE if what is out of range");
        refusePairs(BAD_VALUE, RefusalsTest::oneBid, EchoBids::made, with(0, outside(0, 3)));
        refusePairs(BAD_VALUE, RefusalsTest::manyBids, EchoBids::made, with(39, outside(0, 3)));
        CHECK.part("promise 10: NO_SUCH ahead of BAD_VALUE");
        refusePairs(NO_SUCH, RefusalsTest::oneBid, EchoBids::made, with(1, outside(0, 3)));
        refusePairs(NO_SUCH, RefusalsTest::manyBids, EchoBids::made, with(40, outside(0, 3)));
    }

    private static void whatIfs() {
        CHECK.part("promise 15: BAD_VALUE if lag is out of range");
        refuseEach(BAD_VALUE, Halls::busy, EchoBids::ifLag, outside(0, 5));
        CHECK.part("promise 15: BAD_VALUE also without a lot");
        refuseEach(BAD_VALUE, EchoBids::new, EchoBids::ifLag, outside(0, 5));
        CHECK.part("promise 16: NO_SUCH if there is no such bidder");
        refusePairs(NO_SUCH, Halls::busy, EchoBids::bestPlan, with(outside(0, 2), 0));
        refusePairs(NO_SUCH, Halls::full, EchoBids::bestPlan, with(outside(0, 5), 1));
        refusePairs(NO_SUCH, EchoBids::new, EchoBids::bestPlan, with(0, new int[] {0, 1}));
        CHECK.part("promise 16: BAD_VALUE if what is neither 0 nor 1");
        refusePairs(BAD_VALUE, Halls::busy, EchoBids::bestPlan, with(2, outside(0, 1)));
        CHECK.part("promise 16: NO_SUCH ahead of BAD_VALUE");
        refusePairs(NO_SUCH, Halls::busy, EchoBids::bestPlan, with(3, outside(0, 1)));
    }

    private static void refusePut(String what, int want, Maker maker, long characters) {
        refused(what, want, maker, x -> x.put(characters));
    }

    private static void characters() {
        CHECK.part("promise 17: BAD_VALUE if there is no character");
        refusePut("0", BAD_VALUE, Halls::busy, 0L);
        CHECK.part("promise 17: BAD_VALUE if a code is not 33 to 126");
        for (long code : new long[] {1, 10, 31, 32, 127, 128, 160, 255}) {
            refusePut("alone: " + code, BAD_VALUE, Halls::busy, code);
            refusePut("first of two: " + code, BAD_VALUE, Halls::busy, code << 8 | 't');
            refusePut("last of two: " + code, BAD_VALUE, Halls::busy, 't' << 8 | code);
            refusePut("first of eight: " + code, BAD_VALUE, Halls::busy, code << 56 | 0x74747474747474L);
            refusePut("last of eight: " + code, BAD_VALUE, Halls::busy, 0x7474747474747400L | code);
        }
        refusePut("all bits", BAD_VALUE, Halls::busy, -1L);
        CHECK.part("promise 17: BAD_VALUE if a bit above 8 bits that are 0 is not 0");
        for (int bit = 16; bit < 64; bit++) {
            refusePut("bit " + bit, BAD_VALUE, Halls::busy, 1L << bit | 't');
        }
        refusePut("the lowest 8 bits are 0", BAD_VALUE, Halls::busy, 't' << 8);
        refusePut("the lowest 8 bits are 0, the highest bit is not", BAD_VALUE, Halls::busy, Long.MIN_VALUE);
        refusePut("a good character behind the gap", BAD_VALUE, Halls::busy, 't' << 16 | 't');
        refusePut("in the midst", BAD_VALUE, Halls::busy, 0x7474740074747474L);
        CHECK.part("promise 17: TOO_MANY if the pad would be longer than 80");
        refusePut("one on 80", TOO_MANY, Halls::full, 't');
        refusePut("two on 79", TOO_MANY, () -> padOf(79), 0x7474);
        refusePut("eight on 73", TOO_MANY, () -> padOf(73), 0x7474747474747474L);
        refusePut("eight on 80", TOO_MANY, () -> padOf(80), 0x7474747474747474L);
        CHECK.part("promise 17: BAD_VALUE ahead of TOO_MANY");
        refusePut("none on 80", BAD_VALUE, Halls::full, 0L);
        refusePut("32 on 80", BAD_VALUE, Halls::full, 32L);
        refusePut("a gap on 80", BAD_VALUE, Halls::full, 't' << 16 | 't');
        refusePut("a bad one among eight on 73", BAD_VALUE, () -> padOf(73), 0x7474747474747F74L);
    }

    private static void texts() {
        CHECK.part("promise 20: BAD_TEXT if the pad has a fault (then it stays)");
        refused("empty", BAD_TEXT, RefusalsTest::mute, EchoBids::carryOut);
        String[] faulty = {"x", "t1;", "l5;t1;b0", "l5;l1000x", "+10*10;l05", "l5;+9999*10000", "l1 ", "t".repeat(80)};
        for (String text : faulty) {
            refused(text, BAD_TEXT, () -> {
                EchoBids x = mute();
                Halls.putAll(x, text.replace(' ', '!'));
                return x;
            }, EchoBids::carryOut);
        }
    }

    private static EchoBids undone() {
        EchoBids x = unsaved();
        x.undo();
        x.undo();
        x.undo();
        return x;
    }

    private static EchoBids undoneSix() {
        EchoBids x = Halls.busy();
        for (int k = 0; k < 6; k++) {
            x.undo();
        }
        return x;
    }

    private static void undoAndSlots() {
        CHECK.part("promise 21: NOT_POSSIBLE if there is none");
        refused("of a new one", NOT_POSSIBLE, EchoBids::new, EchoBids::undo);
        refused("all undone", NOT_POSSIBLE, RefusalsTest::undone, EchoBids::undo);
        refused("six undone, more were made", NOT_POSSIBLE, RefusalsTest::undoneSix, EchoBids::undo);
        CHECK.part("promise 22: BAD_VALUE if there is no such slot");
        refuseEach(BAD_VALUE, Halls::busy, EchoBids::save, outside(0, 1));
        CHECK.part("promise 23: BAD_VALUE if there is no such slot");
        refuseEach(BAD_VALUE, Halls::busy, EchoBids::restore, outside(0, 1));
        CHECK.part("promise 23: BAD_VALUE ahead of NOT_POSSIBLE");
        refuseEach(BAD_VALUE, RefusalsTest::unsaved, EchoBids::restore, outside(0, 1));
        CHECK.part("promise 23: NOT_POSSIBLE if nothing was saved in it");
        refuseEach(NOT_POSSIBLE, EchoBids::new, EchoBids::restore, 0, 1);
        refuseEach(NOT_POSSIBLE, RefusalsTest::unsaved, EchoBids::restore, 0, 1);
        refuseEach(NOT_POSSIBLE, Halls::busy, EchoBids::restore, 1);
    }

    public static void main(String[] args) {
        settings();
        bidders();
        plans();
        lots();
        bids();
        rounds();
        questions();
        madeBids();
        whatIfs();
        characters();
        texts();
        undoAndSlots();
        CHECK.finish("refusals");
    }
}
