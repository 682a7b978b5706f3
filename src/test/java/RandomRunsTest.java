/**
 * Runs of calls, made by a fixed sequence of numbers, on EchoBids and on the naive model. None goes beyond the
 * 512 calls for which an object answers.
 */
public final class RandomRunsTest {
    private static final Check CHECK = new Check();
    private static long seed;

    private static int below(int bound) {
        seed = seed * 6364136223846793005L + 1442695040888963407L;
        return (int) ((seed >>> 33) % bound);
    }

    private static int oneOf(int... values) {
        return values[below(values.length)];
    }

    /** Mostly from the range, at times its edges or past them. */
    private static int near(int least, int most) {
        switch (below(12)) {
            case 0: return oneOf(least, most);
            case 1: return oneOf(least - 1, most + 1, -7, Integer.MIN_VALUE, Integer.MAX_VALUE);
            default: return least + below(most - least + 1);
        }
    }

    private static String number() {
        return Integer.toString(oneOf(below(10), below(100), below(1000), below(10000)));
    }

    private static String order() {
        switch (below(5)) {
            case 0: return "+" + number() + "*" + below(220);
            case 1: return "l" + number();
            case 2: return "b" + below(7) + "=" + number();
            default: return "t" + below(30);
        }
    }

    private static String text() {
        StringBuilder text = new StringBuilder(order());
        while (below(3) > 0) {
            text.append(';').append(order());
        }
        if (below(3) == 0) {
            char sign = "+*lbt=;0123456789x~!".charAt(below(20));
            text.setCharAt(below(text.length()), sign);
        }
        if (below(6) == 0) {
            text.setLength(1 + below(text.length()));
        }
        return text.toString();
    }

    private static void putText(EchoBids program, Naive model) {
        String text = text();
        for (int from = 0; from < text.length(); from += 8) {
            long characters = 0;
            for (int at = from; at < text.length() && at < from + 8; at++) {
                characters = characters << 8 | text.charAt(at);
            }
            CHECK.due("put(" + characters + ")", program.put(characters), model.put(characters));
        }
    }

    private static void change(EchoBids program, Naive model, int small) {
        int a;
        int b;
        switch (below(16)) {
            case 0: a = near(0, 3); b = a == 0 ? near(0, 5) : a == 1 ? near(1, 99) : a == 2 ? near(1, 9) : near(0, 1);
                CHECK.due("set(" + a + ", " + b + ")", program.set(a, b), model.set(a, b)); break;
            case 1: case 2: a = near(0, small * 20); b = near(0, 200);
                CHECK.due("bidder(" + a + ", " + b + ")", program.bidder(a, b), model.bidder(a, b)); break;
            case 3: a = near(0, 5); b = near(0, 200);
                CHECK.due("plan(" + a + ", " + b + ")", program.plan(a, b), model.plan(a, b)); break;
            case 4: case 5: a = near(0, Math.min(small, 999));
                CHECK.due("lot(" + a + ")", program.lot(a), model.lot(a)); break;
            case 6: case 7: a = near(0, 5); b = near(1, small);
                CHECK.due("bid(" + a + ", " + b + ")", program.bid(a, b), model.bid(a, b)); break;
            case 8: case 9: a = oneOf(1, 1, 2, 3, 5, near(1, 99));
                CHECK.due("pass(" + a + ")", program.pass(a), model.pass(a)); break;
            case 10: case 11: putText(program, model);
                CHECK.due("fault()", program.fault(), model.fault());
                CHECK.due("carryOut()", program.carryOut(), model.carryOut()); break;
            case 12: CHECK.due("wipe()", program.wipe(), model.wipe()); break;
            case 13: CHECK.due("undo()", program.undo(), model.undo()); break;
            case 14: a = near(0, 1);
                CHECK.due("save(" + a + ")", program.save(a), model.save(a)); break;
            default: a = near(0, 1);
                CHECK.due("restore(" + a + ")", program.restore(a), model.restore(a));
        }
    }

    private static void ask(EchoBids program, Naive model) {
        int a;
        int b;
        switch (below(12)) {
            case 0: case 1: a = near(0, 5); b = near(0, 9);
                CHECK.due("of(" + a + ", " + b + ")", program.of(a, b), model.of(a, b)); break;
            case 2: a = near(0, 7); b = near(0, 6);
                CHECK.due("ofLot(" + a + ", " + b + ")", program.ofLot(a, b), model.ofLot(a, b)); break;
            case 3: case 4: a = oneOf(near(0, 3), near(0, 40)); b = near(0, 3);
                CHECK.due("made(" + a + ", " + b + ")", program.made(a, b), model.made(a, b)); break;
            case 5: case 6: a = near(0, 13);
                CHECK.due("count(" + a + ")", program.count(a), model.count(a)); break;
            case 7: CHECK.due("shadows()", program.shadows(), model.shadows()); break;
            case 8: CHECK.due("dear()", program.dear(), model.dear()); break;
            case 9: CHECK.due("endsIn()", program.endsIn(), model.endsIn()); break;
            case 10: a = near(0, 5);
                CHECK.due("ifLag(" + a + ")", program.ifLag(a), model.ifLag(a)); break;
            default:
                if (below(6) == 0) {
                    a = near(0, 5);
                    b = near(0, 1);
                    CHECK.due("bestPlan(" + a + ", " + b + ")", program.bestPlan(a, b), model.bestPlan(a, b));
                }
        }
    }

    /** Every answer that tells of the state, in 294 calls. */
    private static void compareAll(EchoBids program, Naive model) {
        for (int what = 0; what < 14; what++) {
            CHECK.due("count(" + what + ")", program.count(what), model.count(what));
        }
        for (int what = 0; what < 10; what++) {
            for (int bidder = 0; bidder < 6; bidder++) {
                CHECK.due("of(" + bidder + ", " + what + ")", program.of(bidder, what), model.of(bidder, what));
            }
        }
        for (int what = 0; what < 7; what++) {
            for (int lot = 0; lot < 8; lot++) {
                CHECK.due("ofLot(" + lot + ", " + what + ")", program.ofLot(lot, what), model.ofLot(lot, what));
            }
        }
        for (int ago = 0; ago < 41; ago++) {
            for (int what = 0; what < 4; what++) {
                CHECK.due("made(" + ago + ", " + what + ")", program.made(ago, what), model.made(ago, what));
            }
        }
    }

    public static void main(String[] args) {
        int runs = args.length > 0 ? Integer.parseInt(args[0]) : 6000;
        for (int run = 0; run < runs && !CHECK.failed(); run++) {
            seed = run * 7919L + 11L;
            CHECK.part("random run " + run);
            EchoBids program = new EchoBids();
            Naive model = new Naive();
            int small = oneOf(20, 100, 400, 2000, 9999);
            int calls = 20 + below(180);
            int before = CHECK.answers();
            while (CHECK.answers() - before < calls && !CHECK.failed()) {
                if (below(5) < 3) {
                    change(program, model, small);
                } else {
                    ask(program, model);
                }
            }
            compareAll(program, model);
        }
        CHECK.finish("random runs");
    }
}
