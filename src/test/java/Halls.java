/** Halls that several tests begin with, and what can be told of one. An object answers for 512 calls only. */
final class Halls {
    private Halls() {
    }

    /** A hall with these settings. */
    static EchoBids hall(int lag, int step, int quiet, int price) {
        EchoBids x = new EchoBids();
        x.set(EchoBids.LAG, lag);
        x.set(EchoBids.STEP, step);
        x.set(EchoBids.QUIET, quiet);
        x.set(EchoBids.PRICE, price);
        return x;
    }

    /** Two bidders who outbid one another by 1 each round: round k brings a bid of k + 1. */
    static EchoBids duel(int worth, int plan) {
        EchoBids x = hall(0, 1, 1, 0);
        x.bidder(9999, plan);
        x.bidder(9999, plan);
        x.lot(worth);
        return x;
    }

    /** So many bidders of 9999 coins and without a plan, and so many lots of worth 100: LAG 0, STEP 5, QUIET 1. */
    static EchoBids planless(int bidders, int lots) {
        EchoBids x = hall(0, 5, 1, 0);
        for (int b = 0; b < bidders; b++) {
            x.bidder(9999, 0);
        }
        for (int l = 0; l < lots; l++) {
            x.lot(100);
        }
        return x;
    }

    /** Lots of no worth ahead of one of 999, for which bidder 1 has a plan; all end behind quiet rounds alone. */
    static EchoBids queue(int worthless, int quiet, int plan) {
        EchoBids x = hall(0, 1, quiet, 0);
        x.bidder(9999, 0);
        x.bidder(9999, plan);
        for (int l = 0; l < worthless; l++) {
            x.lot(0);
        }
        x.lot(999);
        return x;
    }

    /** Bidder 1 does best when it drives bidder 0 up to 1995, who has 5 of 2000 left then for the lot of 100. */
    static EchoBids rivals() {
        EchoBids x = hall(0, 5, 1, 0);
        x.bidder(2000, 200);
        x.bidder(9999, 0);
        x.lot(999);
        x.lot(100);
        return x;
    }

    /** A hall in the middle of its third lot of four, with bids, shadows, a bid that is told, a slot and a pad. */
    static EchoBids busy() {
        EchoBids x = hall(2, 3, 4, 1);
        carry(x, "+900*90;+800*120;+50*200;l40;l60;l90;l20;b0=30;t30;b1=77;t30;b2=9;t7");
        x.save(0);
        x.bid(1, 55);
        x.plan(2, 150);
        x.pass(1);
        x.bid(1, 44);
        putAll(x, "t2;l7");
        return x;
    }

    /** 6 bidders, 8 lots, and a pad of 80 characters. */
    static EchoBids full() {
        EchoBids x = new EchoBids();
        carry(x, "+90*80;+80*90;+70*99;+60*100;+50*110;+40*120");
        carry(x, "l10;l20;l30;l40;l50;l60;l70;l80;t9;t9");
        putAll(x, "t1;".repeat(26) + "t1");
        return x;
    }

    /** A hall behind so many rounds (up to 9999), with two bidders and a lot that waits. */
    static EchoBids late(int rounds) {
        EchoBids x = new EchoBids();
        int left = rounds;
        while (left >= 1980) {
            carry(x, "t99;".repeat(19) + "t99");
            left -= 1980;
        }
        while (left > 0) {
            x.pass(Math.min(left, 99));
            left -= Math.min(left, 99);
        }
        x.bidder(90, 100);
        x.bidder(90, 80);
        x.lot(50);
        return x;
    }

    static int putAll(EchoBids x, String text) {
        int answer = 0;
        for (int from = 0; from < text.length(); from += 8) {
            long characters = 0;
            for (int at = from; at < text.length() && at < from + 8; at++) {
                characters = characters << 8 | text.charAt(at);
            }
            answer = x.put(characters);
        }
        return answer;
    }

    static int carry(EchoBids x, String text) {
        putAll(x, text);
        return x.carryOut();
    }

    /** All that the object tells of what undo and saving bring back, and how it would go on. */
    static String tale(EchoBids x) {
        StringBuilder text = new StringBuilder();
        for (int what = 0; what < 12; what++) {
            text.append(x.count(what)).append(' ');
        }
        for (int number = 0; number <= x.count(1) && number < 7; number++) {
            for (int what = 0; what < 10; what++) {
                text.append(x.of(number, what)).append(' ');
            }
        }
        for (int number = 0; number <= x.count(2) && number < 9; number++) {
            for (int what = 0; what < 7; what++) {
                text.append(x.ofLot(number, what)).append(' ');
            }
        }
        return text.append(taleOfBids(x)).append(taleOfIfs(x)).toString();
    }

    private static String taleOfBids(EchoBids x) {
        StringBuilder text = new StringBuilder();
        for (int ago = 0; ago < 41 && x.made(ago, 0) != EchoBids.NO_SUCH; ago++) {
            text.append(x.made(ago, 0)).append(' ').append(x.made(ago, 1)).append(' ');
        }
        for (int ago = 0; ago < 41; ago += 13) {
            text.append(x.made(ago, 2)).append(' ').append(x.made(ago, 3)).append(' ');
        }
        return text.toString();
    }

    private static String taleOfIfs(EchoBids x) {
        StringBuilder text = new StringBuilder();
        text.append(x.shadows()).append(' ').append(x.dear()).append(' ').append(x.endsIn()).append(' ');
        text.append(x.ifLag(0)).append(' ').append(x.ifLag(3)).append(' ').append(x.ifLag(5)).append(' ');
        text.append(x.bestPlan(0, 1)).append(' ').append(x.bestPlan(1, 0));
        return text.toString();
    }

    /** The same in a few calls. */
    static String brief(EchoBids x) {
        StringBuilder text = new StringBuilder();
        for (int what = 0; what < 12; what++) {
            text.append(x.count(what)).append(' ');
        }
        text.append(x.of(0, 0)).append(' ').append(x.of(0, 7)).append(' ').append(x.of(1, 9)).append(' ');
        text.append(x.of(2, 1)).append(' ').append(x.ofLot(2, 4)).append(' ').append(x.endsIn()).append(' ');
        return text.append(x.made(0, 1)).toString();
    }

    /** The tale with what undo does not bring back: the pad, the history with each of its states, the slots. */
    static String wholeTale(EchoBids x) {
        StringBuilder text = new StringBuilder(tale(x));
        text.append(" pad ").append(x.count(12)).append(' ').append(x.fault());
        text.append(" history ").append(x.count(13));
        for (int back = 0; back < 7; back++) {
            text.append(" back ").append(x.undo()).append(' ').append(brief(x));
        }
        for (int slot = 0; slot < 2; slot++) {
            text.append(" slot ").append(x.restore(slot)).append(' ').append(brief(x));
        }
        return text.append(" carried ").append(x.carryOut()).append(' ').append(brief(x)).toString();
    }
}
