/**
 * What the document says of the till, the last 60 minutes, lies and leastEver: each sentence at its boundary, just
 * inside it and just outside it. Above each test stands the sentence that it holds the class to.
 */
public final class TillEdgesTest {
    public static void main(String[] args) {
        askedIsItsPrice();
        askedIsWhatIsShownNow();
        askedIsWhatWasShown();
        askedIsTheLeastOfAll();
        sixtyMinutes();
        sixtyMinutesFromTheFirstMinute();
        sixtyMinutesRoundTheHour();
        sixtyMinutesUpToTheEndOfTime();
        theTimeZeroIsNoEndOfAMinute();
        onlyTheEndOfAMinuteCounts();
        theLeastOfOneMinute();
        theSlotsComeBeforeTheEnd();
        forTheWareThatItIsForThen();
        carriedThereAndBack();
        whatItShowedStaysWithTheWare();
        askedAtTheEdgesOfPrices();
        aLieIsLess();
        liesAreOfTheWareNow();
        liesAreASet();
        aLieAfterALostAnswer();
        leastEverOfNone();
        leastEverOfNow();
        leastEverOfTheEndsOfMinutes();
        leastEverForgetsNothing();
        leastEverIsNotAPrice();
        Check.end();
    }

    // "What the till asks of a ware is the least one of its price, .."
    private static void askedIsItsPrice() {
        GlassLabels shop = new GlassLabels();
        for (int price : new int[] {9999, 0, 1, 9998}) {
            shop.setPrice(3, price);
            Check.due("without labels", shop.asked(3), price);
        }
        shop.pass(1);
        shop.setPrice(3, 9999);
        Check.due("what was only its price is not asked", shop.asked(3), 9999);
        shop.hang(3);
        shop.setPrice(3, 9998);
        Check.due("a lower price at once", shop.asked(3), 9998);
    }

    // ".. of what its labels show now, .."
    private static void askedIsWhatIsShownNow() {
        GlassLabels shop = Shops.showing(50);
        shop.setPrice(0, 51);
        Check.due("one less than the price", shop.asked(0), 50);
        shop.setPrice(0, 50);
        Check.due("the price", shop.asked(0), 50);
        shop.setPrice(0, 49);
        Check.due("one more than the price", shop.asked(0), 49);
        shop.setPrice(0, 60);
        shop.hang(0);
        Check.due("the least of two labels", shop.asked(0), 50);
        shop.carry(0, 1);
        Check.due("not of one that is for another ware now", shop.asked(0), 60);
        shop.setPrice(1, 70);
        Check.due("but for that one", shop.asked(1), 50);
    }

    // ".. and of all prices that labels have shown for it in the last 60 minutes"
    private static void askedIsWhatWasShown() {
        GlassLabels shop = Shops.showing(50);
        shop.pass(1);
        Shops.change(shop, 51);
        Check.due("one less than what is shown", shop.asked(0), 50);
        Shops.change(shop, 49);
        Check.due("what is shown is less", shop.asked(0), 49);
        Check.due("of no other ware", shop.asked(1), 0);
    }

    // "the least one of" the three, each of them once the least
    private static void askedIsTheLeastOfAll() {
        GlassLabels shop = Shops.showing(30);
        shop.pass(1);
        Shops.change(shop, 40);
        shop.setPrice(0, 50);
        Check.due("shown before 30, shown 40, price 50", shop.asked(0), 30);
        shop.setPrice(0, 20);
        Check.due("price 20", shop.asked(0), 20);
        shop.setPrice(0, 50);
        shop.setPrice(1, 10);
        shop.hang(1);
        shop.carry(1, 0);
        Check.due("another label that shows 10 now", shop.asked(0), 10);
        shop.carry(1, 1);
        Check.due("and is away again", shop.asked(0), 30);
    }

    // "the last 60 minutes are those that made the times above 60 less than now"
    private static void sixtyMinutes() {
        sixtyMinutesAfter(100);
    }

    // the same, of the minutes that made the times 1 and 2
    private static void sixtyMinutesFromTheFirstMinute() {
        sixtyMinutesAfter(1);
        sixtyMinutesAfter(2);
    }

    // the same, round the times at which an hour of minutes is full
    private static void sixtyMinutesRoundTheHour() {
        for (int last : new int[] {58, 59, 60, 61, 62, 118, 119, 120, 121, 179, 180, 181}) {
            sixtyMinutesAfter(last);
        }
    }

    // the same, up to the time 10000
    private static void sixtyMinutesUpToTheEndOfTime() {
        sixtyMinutesAfter(9940);
        GlassLabels shop = shownUpTo(9941);
        Shops.passLong(shop, 10000 - shop.time());
        Check.due("shown at 9941, asked at 10000", shop.asked(0), 50);
    }

    /** Ware 0 has been shown for 50 at the end of the minute that made the time 'last', and for 80 since then. */
    private static GlassLabels shownUpTo(int last) {
        GlassLabels shop = Shops.showing(50);
        Shops.passLong(shop, last);
        shop.charge(0);
        Shops.change(shop, 80);
        return shop;
    }

    private static void sixtyMinutesAfter(int last) {
        GlassLabels shop = shownUpTo(last);
        Check.due("asked 1 minute after " + last, shop.asked(0), 50);
        Shops.passLong(shop, 57);
        Check.due("asked 58 minutes after " + last, shop.asked(0), 50);
        shop.pass(1);
        Check.due("asked 59 minutes after " + last, shop.asked(0), 50);
        shop.pass(1);
        Check.due("asked 60 minutes after " + last, shop.asked(0), 80);
        if (last + 61 <= 10000) {
            shop.pass(1);
            Check.due("asked 61 minutes after " + last, shop.asked(0), 80);
        }
        Check.due("leastEver after " + last, shop.leastEver(0), 50);
    }

    // "at the end of a minute that made the time t": no minute made the time 0
    private static void theTimeZeroIsNoEndOfAMinute() {
        GlassLabels shop = Shops.showing(50);
        shop.setPrice(0, 80);
        Check.due("at 0 it is shown", shop.asked(0), 50);
        shop.pass(1);
        Check.due("at 1 it is not", shop.asked(0), 80);
        Check.due("nor ever was at the end of a minute", shop.leastEver(0), 80);
    }

    // "at the end of a minute .., each label shows its price": what is shown between two minutes is not kept
    private static void onlyTheEndOfAMinuteCounts() {
        GlassLabels shop = new GlassLabels();
        shop.setPrice(0, 70);
        shop.pass(10);
        shop.setPrice(1, 5);
        shop.hang(1);
        shop.carry(0, 0);
        Check.due("shown for ware 0 now", shop.asked(0), 5);
        shop.carry(0, 2);
        Check.due("away before the minute's end", shop.asked(0), 70);
        Check.due("ware 1 had it between minutes too", shop.leastEver(1), GlassLabels.NONE);
        shop.pass(1);
        Check.due("and so it stays", shop.asked(0), 70);
        Check.due("ever", shop.leastEver(0), GlassLabels.NONE);
    }

    // "of all prices that labels have shown for it": of several labels in one minute the least, whichever it is
    private static void theLeastOfOneMinute() {
        for (int cheap = 0; cheap < 3; cheap++) {
            GlassLabels shop = new GlassLabels();
            for (int label = 0; label < 3; label++) {
                shop.setPrice(0, label == cheap ? 20 : 60 + label);
                shop.hang(0);
            }
            // All three would be redrawn: the sendings are lost for one minute.
            for (int label = 0; label < 3; label++) {
                shop.loseSendings(label, 1);
            }
            shop.setPrice(0, 90);
            shop.pass(1);
            shop.pass(20);
            Check.due("all show 90", shop.lies(), 0);
            Check.due("the least was of label " + cheap, shop.asked(0), 20);
            Check.due("ever", shop.leastEver(0), 20);
        }
    }

    // "then its slots; .. at the end of a minute": a price that comes in the minute is the one shown at its end
    private static void theSlotsComeBeforeTheEnd() {
        GlassLabels shop = Shops.showing(50);
        Shops.change(shop, 20);
        shop.setPrice(0, 50);
        Check.due("20 is shown", shop.asked(0), 20);
        shop.pass(1);
        Check.due("it was shown at the end of the minute 1", shop.asked(0), 20);
        Shops.change(shop, 90);
        Check.due("50 too, but 20 is less", shop.asked(0), 20);
        shop.pass(57);
        Check.due("at 60 the minute 1 counts", shop.asked(0), 20);
        shop.pass(1);
        Check.due("at 61 the minute 2 does, where 50 was shown", shop.asked(0), 50);
        shop.pass(1);
        Check.due("at 62 neither", shop.asked(0), 90);
    }

    // "each label shows its price for the ware that it is for then"
    private static void forTheWareThatItIsForThen() {
        GlassLabels shop = Shops.showing(20);
        shop.setPrice(0, 90);
        shop.setPrice(1, 80);
        shop.loseSendings(0, 1);
        shop.carry(0, 1);
        shop.pass(1);
        Check.due("20 was shown for ware 1", shop.asked(1), 20);
        Check.due("and not for ware 0", shop.asked(0), 90);
        Check.due("ever for ware 1", shop.leastEver(1), 20);
        Check.due("never for ware 0", shop.leastEver(0), GlassLabels.NONE);
    }

    // the same, for a label that is back before the minute ends
    private static void carriedThereAndBack() {
        GlassLabels shop = Shops.showing(20);
        shop.setPrice(1, 80);
        shop.carry(0, 1);
        shop.carry(0, 0);
        shop.pass(1);
        Check.due("ware 1 never saw it", shop.asked(1), 80);
        Check.due("ever", shop.leastEver(1), GlassLabels.NONE);
        Check.due("ware 0 did", shop.leastEver(0), 20);
    }

    // carry: "What it showed earlier stays with the ware that it was for then."
    private static void whatItShowedStaysWithTheWare() {
        GlassLabels shop = Shops.showing(20);
        shop.pass(5);
        shop.setPrice(0, 90);
        shop.setPrice(1, 80);
        shop.carry(0, 1);
        shop.pass(59);
        Check.due("59 minutes later it is with ware 0", shop.asked(0), 20);
        Check.due("and not with ware 1", shop.asked(1), 80);
        shop.pass(1);
        Check.due("60 minutes later it is not asked", shop.asked(0), 90);
        Check.due("but was ever", shop.leastEver(0), 20);
        Check.due("ware 1 has had its own", shop.leastEver(1), 80);
    }

    // "a price, 0 to 9999": the till asks from the least to the highest of them
    private static void askedAtTheEdgesOfPrices() {
        GlassLabels high = Shops.showing(9999);
        high.pass(1);
        Check.due("9999", high.asked(0), 9999);
        Check.due("9999 ever", high.leastEver(0), 9999);
        Shops.change(high, 0);
        Shops.change(high, 9999);
        Check.due("0", high.asked(0), 0);
        Check.due("0 ever", high.leastEver(0), 0);
    }

    // "A label tells a lie while what it shows is less than the price of its ware."
    private static void aLieIsLess() {
        GlassLabels shop = Shops.showing(50);
        Check.due("the same", shop.lies(), 0);
        shop.setPrice(0, 51);
        Check.due("one less", shop.lies(), 1);
        shop.setPrice(0, 49);
        Check.due("one more", shop.lies(), 0);
        shop.setPrice(0, 9999);
        Check.due("much less", shop.lies(), 1);
        shop.setPrice(0, 50);
        Check.due("the same again, before it is sent", shop.lies(), 0);
        shop.setPrice(0, 51);
        shop.pass(1);
        Check.due("redrawn", shop.lies(), 0);
    }

    // "less than the price of its ware": of the one that it is for now
    private static void liesAreOfTheWareNow() {
        GlassLabels shop = Shops.showing(50);
        shop.setPrice(1, 51);
        shop.setPrice(2, 49);
        shop.carry(0, 1);
        Check.due("a dearer ware", shop.lies(), 1);
        shop.carry(0, 2);
        Check.due("a cheaper ware", shop.lies(), 0);
        shop.setPrice(1, 60);
        Check.due("its old ware gets dearer", shop.lies(), 0);
    }

    // lies: "a set, bit l for the label l"
    private static void liesAreASet() {
        GlassLabels shop = new GlassLabels();
        Check.due("of no labels", shop.lies(), 0);
        for (int label = 0; label < 12; label++) {
            shop.hang(label);
        }
        Check.due("none of twelve", shop.lies(), 0);
        for (int label = 0; label < 12; label++) {
            shop.setPrice(label, 1);
            Check.due("label " + label, shop.lies(), 1 << label);
            shop.setPrice(label, 0);
        }
        shop.setPrice(0, 1);
        shop.setPrice(11, 1);
        Check.due("the first and the last", shop.lies(), 2049);
        for (int label = 0; label < 12; label++) {
            shop.setPrice(label, 1);
        }
        Check.due("all", shop.lies(), 4095);
    }

    // "A label tells a lie while what it shows is less": an order that is not done makes none
    private static void aLieAfterALostAnswer() {
        GlassLabels shop = Shops.showing(50);
        shop.loseAnswers(0, 1);
        Shops.change(shop, 60);
        Check.due("it has an order", shop.orders(), 1);
        Check.due("but shows the price", shop.lies(), 0);
        shop.loseSendings(0, 1);
        Shops.change(shop, 70);
        Check.due("it lies after a lost sending", shop.lies(), 1);
    }

    // leastEver: "NONE if there is none"
    private static void leastEverOfNone() {
        GlassLabels shop = new GlassLabels();
        for (int ware = 0; ware < 12; ware++) {
            Check.due("leastEver(" + ware + ") at first", shop.leastEver(ware), GlassLabels.NONE);
        }
        shop.hang(5);
        shop.pass(1);
        Check.due("the ware below", shop.leastEver(4), GlassLabels.NONE);
        Check.due("the ware: 0 is not none", shop.leastEver(5), 0);
        Check.due("the ware above", shop.leastEver(6), GlassLabels.NONE);
    }

    // leastEver: "the least price that labels show for a ware now", also at the time 0
    private static void leastEverOfNow() {
        GlassLabels shop = Shops.showing(50);
        Check.due("at 0", shop.leastEver(0), 50);
        shop.setPrice(0, 40);
        Check.due("not the price", shop.leastEver(0), 50);
        shop.hang(0);
        Check.due("the least of two", shop.leastEver(0), 40);
        shop.carry(1, 1);
        Check.due("of one again", shop.leastEver(0), 50);
        Check.due("the other is for ware 1 now", shop.leastEver(1), 40);
        shop.carry(0, 1);
        Check.due("of none", shop.leastEver(0), GlassLabels.NONE);
    }

    // leastEver: "or have shown for it at the end of some minute since the time 0"
    private static void leastEverOfTheEndsOfMinutes() {
        GlassLabels first = Shops.showing(50);
        first.pass(1);
        first.carry(0, 1);
        Check.due("the first minute counts", first.leastEver(0), 50);
        GlassLabels zero = Shops.showing(50);
        zero.carry(0, 1);
        zero.pass(1);
        Check.due("the time 0 does not", zero.leastEver(0), GlassLabels.NONE);
    }

    // the same: "since the time 0", however long ago
    private static void leastEverForgetsNothing() {
        GlassLabels shop = Shops.showing(50);
        shop.pass(1);
        Shops.change(shop, 80);
        shop.pass(58);
        Check.due("at 60", shop.leastEver(0), 50);
        shop.pass(1);
        Check.due("at 61", shop.leastEver(0), 50);
        shop.setPrice(0, 70);
        shop.pass(1);
        Check.due("a later one that is more", shop.leastEver(0), 50);
        Shops.change(shop, 49);
        Shops.change(shop, 80);
        Check.due("a later one that is less", shop.leastEver(0), 49);
        Shops.passLong(shop, 10000 - shop.time());
        Check.due("at 10000", shop.leastEver(0), 49);
    }

    // leastEver: "that labels show": not what is only the ware's price
    private static void leastEverIsNotAPrice() {
        GlassLabels shop = Shops.showing(50);
        shop.loseSendings(0, 20);
        shop.setPrice(0, 10);
        shop.pass(3);
        Check.due("10 was never shown", shop.leastEver(0), 50);
        Check.due("though the till asks it", shop.asked(0), 10);
    }
}
