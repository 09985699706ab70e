/**
 * What the document says of orders, slots, the 5 minutes and what is lost: each sentence at its boundary, just
 * inside it and just outside it. Above each test stands the sentence that it holds the class to.
 */
public final class OrdersEdgesTest {
    public static void main(String[] args) {
        onlyAChangeMakesOrders();
        onlyLabelsOfTheWareGetOrders();
        alsoALabelThatShowsThePriceGetsAnOrder();
        oneOrderInPlaceOfAnother();
        theNewOrderIsDueSinceItIsMade();
        aFirstOrderIsDueSinceItIsMade();
        dueAtOnce();
        numberedFromOne();
        numberedByRisingLabels();
        numbersAreNotUsedAgain();
        twoSlotsAMinute();
        emptySlotsAreNotSaved();
        oneOrderOnceInAMinute();
        theLongestDueFirst();
        theLowestNumberOfThoseDueAlike();
        nextToSendIfThatWereNow();
        nextToSendOfNone();
        againFiveMinutesAfterALostSending();
        againFiveMinutesAfterALostAnswer();
        againFiveMinutesWithoutBattery();
        fiveMinutesFromTheSending();
        theTimeGrowsBeforeTheSlots();
        lostSendingsAsManyAsTold();
        lostSendingsInPlaceOfWhatWasTold();
        lostSendingsOfOneLabel();
        aLostSendingDoesNothingMore();
        lostSendingsWithoutBattery();
        lostAnswersAsManyAsTold();
        lostAnswersInPlaceOfWhatWasTold();
        lostAnswersOfOneLabel();
        lostAnswersWithoutARedraw();
        noAnswerWithoutBattery();
        carryForgetsTheOrder();
        carryOrdersIfAnotherPriceIsShown();
        carryOnlyToAnotherWare();
        carryIsDueAtOnce();
        passCountsEachTime();
        orderOfALabel();
        ordersFromNoneToAll();
        Check.end();
    }

    // "When the price of a ware changes, each of its labels gets an order"; setPrice: "0 if the price is the same"
    private static void onlyAChangeMakesOrders() {
        GlassLabels shop = Shops.withLabels(2);
        Check.due("the same, at first", shop.setPrice(0, 0), 0);
        Check.due("no order", shop.orders(), 0);
        Check.due("one more", shop.setPrice(0, 1), 2);
        Check.due("the same", shop.setPrice(0, 1), 0);
        Check.due("the orders are those of before", shop.order(0), 1);
        Check.due("one less", shop.setPrice(0, 0), 2);
    }

    // "each of its labels gets an order"; setPrice: "Returns how many orders are made"
    private static void onlyLabelsOfTheWareGetOrders() {
        GlassLabels shop = new GlassLabels();
        Check.due("no label at all", shop.setPrice(0, 9), 0);
        for (int label = 0; label < 12; label++) {
            shop.hang(label == 5 ? 1 : 0);
        }
        Check.due("eleven of twelve", shop.setPrice(0, 1), 11);
        Check.due("the other has none", shop.order(5), GlassLabels.NONE);
        Check.due("one", shop.setPrice(1, 1), 1);
        Check.due("none", shop.setPrice(2, 1), 0);
        shop.carry(5, 0);
        Check.due("all twelve", shop.setPrice(0, 2), 12);
    }

    // "each of its labels gets an order to show the new price": setPrice does not ask what is shown, as carry does
    private static void alsoALabelThatShowsThePriceGetsAnOrder() {
        GlassLabels shop = Shops.showing(10);
        shop.setPrice(0, 11);
        Check.due("back to what it shows", shop.setPrice(0, 10), 1);
        Check.due("it is sent", shop.pass(1), 1);
        Check.due("it is answered", shop.order(0), GlassLabels.NONE);
    }

    // "gets an order to show the new price, in place of one that it has"
    private static void oneOrderInPlaceOfAnother() {
        GlassLabels shop = Shops.withLabels(2);
        shop.setPrice(0, 1);
        shop.setPrice(0, 2);
        Check.due("two labels, two orders", shop.orders(), 2);
        Check.due("the later one", shop.order(0), 3);
        Check.due("sent once each", shop.pass(10), 2);
        Check.due("the later price", shop.shown(0), 2);
    }

    // "it is due at once": not since the order in whose place it comes
    private static void theNewOrderIsDueSinceItIsMade() {
        GlassLabels shop = Shops.withLabels(4);
        shop.hang(3);
        shop.hang(1);
        shop.setPrice(1, 1);
        Check.due("label 5 had an order that is done", shop.pass(1), 1);
        shop.setPrice(0, 1);
        shop.setPrice(3, 1);
        Check.due("orders 2 to 6 are due since 1, two are sent", shop.pass(1), 2);
        shop.setPrice(1, 2);
        shop.setPrice(3, 2);
        Check.due("order 7 of label 5", shop.order(5), 7);
        Check.due("order 8 of label 4, in place of order 6", shop.order(4), 8);
        Check.due("orders 4 and 5 are sent", shop.pass(1), 2);
        Check.due("then 7, as 8 is due since 2 too", shop.nextToSend(), 5);
    }

    // "it is due at once": the first order that a label gets is not due since before
    private static void aFirstOrderIsDueSinceItIsMade() {
        GlassLabels shop = Shops.withLabels(2);
        shop.hang(1);
        shop.hang(2);
        shop.loseSendings(0, 1);
        shop.loseSendings(1, 1);
        shop.setPrice(0, 1);
        shop.pass(5);
        shop.setPrice(1, 1);
        Check.due("orders 3 and 1 are sent at 6", shop.pass(1), 2);
        shop.setPrice(2, 1);
        Check.due("order 4 of label 3", shop.order(3), 4);
        Check.due("order 2 is due since 6 too", shop.nextToSend(), 1);
    }

    // "it is due at once", at the time 0 and later
    private static void dueAtOnce() {
        GlassLabels shop = Shops.withLabels(1);
        shop.setPrice(0, 1);
        Check.due("at 0", shop.nextToSend(), 0);
        Check.due("in the first slot", shop.pass(1), 1);
        shop.pass(16);
        shop.setPrice(0, 2);
        Check.due("at 17", shop.nextToSend(), 0);
        Check.due("in the next minute", shop.pass(1), 1);
        Check.due("it came", shop.shown(0), 2);
    }

    // "Orders are numbered from 1, all together, in the order in which they are made"
    private static void numberedFromOne() {
        GlassLabels shop = new GlassLabels();
        shop.hang(3);
        shop.hang(2);
        shop.hang(1);
        shop.setPrice(1, 10);
        Check.due("the first", shop.order(2), 1);
        shop.setPrice(3, 20);
        Check.due("the second, of another ware", shop.order(0), 2);
        shop.carry(1, 1);
        Check.due("the third, by carry", shop.order(1), 3);
        shop.pass(2);
        shop.setPrice(3, 30);
        Check.due("the fourth, when the others are done", shop.order(0), 4);
    }

    // "in the order in which they are made (by rising labels)"
    private static void numberedByRisingLabels() {
        GlassLabels shop = Shops.withLabels(12);
        shop.setPrice(0, 1);
        for (int label = 0; label < 12; label++) {
            Check.due("order(" + label + ")", shop.order(label), 1 + label);
        }
        shop.carry(4, 1);
        shop.setPrice(0, 2);
        Check.due("before the one that was carried away", shop.order(3), 12 + 4);
        Check.due("after it", shop.order(5), 12 + 5);
    }

    // "numbered from 1, all together": a number whose order is forgotten or replaced was given all the same
    private static void numbersAreNotUsedAgain() {
        GlassLabels shop = Shops.withLabels(1);
        shop.setPrice(0, 1);
        Check.due("forgotten, and no other made", shop.carry(0, 1), false);
        shop.setPrice(1, 1);
        Check.due("the second", shop.order(0), 2);
        shop.setPrice(1, 2);
        Check.due("the third, in its place", shop.order(0), 3);
    }

    // "A minute has 2 slots": one, two and three orders
    private static void twoSlotsAMinute() {
        GlassLabels one = Shops.withLabels(1);
        one.setPrice(0, 1);
        Check.due("one", one.pass(1), 1);
        GlassLabels two = Shops.withLabels(2);
        two.setPrice(0, 1);
        Check.due("two", two.pass(1), 2);
        Check.due("both came", two.orders(), 0);
        GlassLabels three = Shops.withLabels(3);
        three.setPrice(0, 1);
        Check.due("two of three", three.pass(1), 2);
        Check.due("one waits", three.orders(), 1);
        Check.due("it is sent then", three.pass(1), 1);
        GlassLabels all = Shops.withLabels(12);
        all.setPrice(0, 1);
        Check.due("ten in five minutes", all.pass(5), 10);
        Check.due("two in the sixth", all.pass(1), 2);
        Check.due("none in the seventh", all.pass(1), 0);
    }

    // "A minute has 2 slots": those of a minute without orders are gone
    private static void emptySlotsAreNotSaved() {
        GlassLabels shop = Shops.withLabels(3);
        Check.due("nothing to send", shop.pass(10), 0);
        shop.setPrice(0, 1);
        Check.due("two all the same", shop.pass(1), 2);
    }

    // "it is due again 5 minutes later": not in the other slot of the minute
    private static void oneOrderOnceInAMinute() {
        GlassLabels shop = Shops.withLabels(1);
        shop.loseSendings(0, 1);
        shop.setPrice(0, 1);
        Check.due("once", shop.pass(1), 1);
        Check.due("it did not come by the second slot", shop.shown(0), 0);
    }

    // "the radio sends the order that is due for the longest time"
    private static void theLongestDueFirst() {
        GlassLabels shop = Shops.withLabels(2);
        shop.hang(1);
        shop.loseSendings(0, 1);
        shop.loseSendings(1, 1);
        shop.setPrice(0, 1);
        shop.pass(5);
        shop.setPrice(1, 1);
        // Orders 1 and 2 are due since 6 then, order 3 since 5.
        Check.due("two of three at 6", shop.pass(1), 2);
        Check.due("order 3 was the first of them", shop.order(2), GlassLabels.NONE);
        Check.due("order 1 the second", shop.order(0), GlassLabels.NONE);
        Check.due("order 2 waits", shop.nextToSend(), 1);
    }

    // "of several the one with the lowest number": not the lowest label
    private static void theLowestNumberOfThoseDueAlike() {
        GlassLabels shop = new GlassLabels();
        shop.hang(1);
        shop.hang(0);
        shop.hang(0);
        shop.setPrice(0, 1);
        shop.setPrice(1, 1);
        Check.due("order 1 of label 1", shop.nextToSend(), 1);
        Check.due("orders 1 and 2", shop.pass(1), 2);
        Check.due("order 3 of label 0 is left", shop.order(0), 3);

        GlassLabels again = Shops.withLabels(2);
        again.hang(1);
        again.loseSendings(0, 20);
        again.loseSendings(1, 20);
        again.setPrice(0, 1);
        again.pass(5);
        again.setPrice(1, 1);
        again.pass(1);
        // Order 2 is due again since 6; one that is made at 6 is due since then too.
        again.carry(0, 2);
        again.setPrice(2, 5);
        Check.due("label 0 has order 4", again.order(0), 4);
        Check.due("order 2, though it was sent before", again.nextToSend(), 1);
    }

    // nextToSend: "would be sent in the next slot, if that were now": one minute ahead it is not due yet
    private static void nextToSendIfThatWereNow() {
        GlassLabels shop = Shops.withLabels(3);
        shop.loseSendings(2, 1);
        shop.setPrice(0, 1);
        shop.pass(2);
        Check.due("sent at 2", shop.order(2), 3);
        shop.pass(4);
        Check.due("at 6: not due, though it will be in the next minute", shop.nextToSend(), GlassLabels.NONE);
        shop.setPrice(0, 2);
        Check.due("at 6: a new one", shop.nextToSend(), 0);
        Check.due("asked again", shop.nextToSend(), 0);
        shop.pass(1);
        Check.due("at 7: the one that had no slot", shop.nextToSend(), 2);
    }

    // nextToSend: "NONE if none is due"
    private static void nextToSendOfNone() {
        GlassLabels shop = new GlassLabels();
        Check.due("no label", shop.nextToSend(), GlassLabels.NONE);
        shop.hang(0);
        Check.due("no order", shop.nextToSend(), GlassLabels.NONE);
        shop.setPrice(0, 1);
        Check.due("one that is due", shop.nextToSend(), 0);
        shop.loseSendings(0, 1);
        shop.pass(1);
        Check.due("one, but not due", shop.nextToSend(), GlassLabels.NONE);
        Check.due("it is there", shop.orders(), 1);
        shop.pass(5);
        Check.due("done", shop.nextToSend(), GlassLabels.NONE);
    }

    // "it is due again 5 minutes later", of a sending that is lost: not after 4, after 5
    private static void againFiveMinutesAfterALostSending() {
        GlassLabels shop = Shops.withLabels(1);
        shop.loseSendings(0, 2);
        shop.setPrice(0, 1);
        againAfterFiveMinutes("lost sending", shop);
    }

    // "it is due again 5 minutes later", of an answer that is lost
    private static void againFiveMinutesAfterALostAnswer() {
        GlassLabels shop = Shops.withLabels(1);
        shop.loseAnswers(0, 2);
        shop.setPrice(0, 1);
        againAfterFiveMinutes("lost answer", shop);
    }

    // "(also if the label has no battery left)"
    private static void againFiveMinutesWithoutBattery() {
        GlassLabels shop = Shops.withBattery(0);
        shop.setPrice(0, 1);
        againAfterFiveMinutes("no battery", shop);
        shop.charge(0);
        Check.due("a new battery makes it not due", shop.nextToSend(), GlassLabels.NONE);
        Check.due("not sent before its time", shop.pass(4), 0);
        Check.due("sent at its time", shop.pass(1), 1);
        Check.due("it came", shop.shown(0), 1);
    }

    private static void againAfterFiveMinutes(String why, GlassLabels shop) {
        Check.due(why + ": sent", shop.pass(1), 1);
        Check.due(why + ": not 1 to 4 minutes later", shop.pass(4), 0);
        Check.due(why + ": again after 5", shop.pass(1), 1);
        Check.due(why + ": not 1 to 4 minutes later still", shop.pass(4), 0);
        Check.due(why + ": the order has its number yet", shop.order(0), 1);
        Check.due(why + ": and after 5 more", shop.pass(1), 1);
    }

    // "it is due again 5 minutes later": later than it was sent, not than it was due
    private static void fiveMinutesFromTheSending() {
        GlassLabels shop = Shops.withLabels(3);
        for (int label = 0; label < 3; label++) {
            shop.loseSendings(label, 1);
        }
        shop.setPrice(0, 1);
        Check.due("two at 1, the third at 2", shop.pass(2), 3);
        Check.due("none until 5", shop.pass(3), 0);
        Check.due("two at 6", shop.pass(1), 2);
        Check.due("the third is not due", shop.nextToSend(), GlassLabels.NONE);
        Check.due("the third at 7", shop.pass(1), 1);
    }

    // "the time grows by 1; then its slots": what is sent in the minute that makes the time 5 is due again at 10
    private static void theTimeGrowsBeforeTheSlots() {
        GlassLabels shop = Shops.withLabels(1);
        shop.pass(4);
        shop.loseSendings(0, 1);
        shop.setPrice(0, 1);
        Check.due("sent at 5", shop.pass(1), 1);
        Check.due("not up to 9", shop.pass(4), 0);
        Check.due("at 9 not due", shop.nextToSend(), GlassLabels.NONE);
        Check.due("at 10", shop.pass(1), 1);
        Check.due("done", shop.orders(), 0);
    }

    // "for a label the next sendings are lost .., as many as told"
    private static void lostSendingsAsManyAsTold() {
        for (int told = 0; told <= 3; told++) {
            GlassLabels shop = Shops.withLabels(1);
            shop.loseSendings(0, told);
            shop.setPrice(0, 7);
            if (told > 0) {
                Check.due(told + " told: as many sent", shop.pass(1 + 5 * (told - 1)), told);
                Check.due(told + " told: all lost", shop.shown(0), 0);
                shop.pass(4);
            }
            Check.due(told + " told: the next is sent", shop.pass(1), 1);
            Check.due(told + " told: the next comes", shop.shown(0), 7);
            Check.due(told + " told: none would be lost yet", shop.loseSendings(0, 0), 0);
        }
    }

    // loseSendings: "in place of what was told before"; "Returns how many would have been lost yet"
    private static void lostSendingsInPlaceOfWhatWasTold() {
        GlassLabels shop = Shops.withLabels(1);
        shop.loseSendings(0, 3);
        Check.due("3 were told", shop.loseSendings(0, 1), 3);
        shop.setPrice(0, 7);
        shop.pass(1);
        Check.due("1 is lost", shop.loseSendings(0, 2), 0);
        shop.pass(5);
        Check.due("one of 2", shop.loseSendings(0, 0), 1);
        shop.pass(5);
        Check.due("0 lets the next come", shop.shown(0), 7);
    }

    // "for a label the next sendings are lost": of that label, whatever orders they are of
    private static void lostSendingsOfOneLabel() {
        GlassLabels shop = Shops.withLabels(2);
        shop.loseSendings(0, 2);
        shop.setPrice(0, 7);
        shop.pass(1);
        Check.due("lost", shop.shown(0), 0);
        Check.due("the other comes", shop.shown(1), 7);
        shop.setPrice(0, 8);
        shop.pass(1);
        Check.due("also of a new order", shop.shown(0), 0);
        shop.carry(0, 1);
        shop.setPrice(1, 9);
        shop.pass(1);
        Check.due("two were lost", shop.shown(0), 9);
    }

    // "A sending that is lost does nothing more."
    private static void aLostSendingDoesNothingMore() {
        GlassLabels shop = Shops.withLabels(1);
        shop.loseSendings(0, 1);
        shop.loseAnswers(0, 1);
        shop.setPrice(0, 1111);
        Check.due("it is sent", shop.pass(1), 1);
        Check.due("not shown", shop.shown(0), 0);
        Check.due("no ghosts", shop.ghosts(0), 0);
        Check.due("the battery is only listened from", shop.battery(0), 999);
        Check.due("the order stays", shop.order(0), 1);
        Check.due("no answer is lost by it", shop.loseAnswers(0, 0), 1);
        Check.due("it is the one that was lost", shop.loseSendings(0, 0), 0);
    }

    // loseSendings: "Lets the next sendings to a label be lost, whatever would come of them": at 19 nothing would
    private static void lostSendingsWithoutBattery() {
        for (int left : new int[] {0, 19, 20}) {
            GlassLabels shop = Shops.withBattery(left);
            shop.loseSendings(0, 2);
            shop.setPrice(0, 1);
            shop.pass(1);
            Check.due("one is lost with a battery of " + left, shop.loseSendings(0, 0), 1);
        }
    }

    // "or the next answers, as many as told"; "if the answer is not lost, the order is done"
    private static void lostAnswersAsManyAsTold() {
        for (int told = 0; told <= 3; told++) {
            GlassLabels shop = Shops.withLabels(1);
            shop.loseAnswers(0, told);
            shop.setPrice(0, 7);
            shop.pass(1);
            Check.due(told + " told: the first sending is shown", shop.shown(0), 7);
            Check.due(told + " told: order", shop.order(0), told == 0 ? GlassLabels.NONE : 1);
            Check.due(told + " told: as many are sent again", shop.pass(100), told);
            Check.due(told + " told: the radio has it no more", shop.orders(), 0);
            Check.due(told + " told: none would be lost yet", shop.loseAnswers(0, 0), 0);
        }
    }

    // loseAnswers: "likewise": in place of what was told before
    private static void lostAnswersInPlaceOfWhatWasTold() {
        GlassLabels shop = Shops.withLabels(1);
        shop.loseAnswers(0, 3);
        Check.due("3 were told", shop.loseAnswers(0, 1), 3);
        shop.setPrice(0, 7);
        shop.pass(1);
        Check.due("1 is lost", shop.loseAnswers(0, 2), 0);
        shop.pass(5);
        Check.due("one of 2", shop.loseAnswers(0, 0), 1);
        Check.due("not done", shop.orders(), 1);
        shop.pass(5);
        Check.due("0 lets the next come back", shop.orders(), 0);
    }

    // "for a label the next .. answers": of that label, whatever orders they are of
    private static void lostAnswersOfOneLabel() {
        GlassLabels shop = Shops.withLabels(2);
        shop.loseAnswers(0, 2);
        shop.setPrice(0, 7);
        shop.pass(1);
        Check.due("lost", shop.order(0), 1);
        Check.due("the other comes back", shop.order(1), GlassLabels.NONE);
        shop.setPrice(0, 8);
        shop.pass(1);
        Check.due("also of a new order", shop.order(0), 3);
        shop.setPrice(0, 9);
        shop.pass(1);
        Check.due("two were lost", shop.order(0), GlassLabels.NONE);
    }

    // "(if it does so already, nothing is redrawn), and answers": such an answer can be lost too
    private static void lostAnswersWithoutARedraw() {
        GlassLabels shop = Shops.showing(10);
        shop.setPrice(0, 11);
        shop.setPrice(0, 10);
        shop.loseAnswers(0, 1);
        shop.pass(1);
        Check.due("lost", shop.loseAnswers(0, 0), 0);
        Check.due("the order stays", shop.order(0), 2);
        shop.pass(5);
        Check.due("the next comes back", shop.order(0), GlassLabels.NONE);
        Check.due("nothing was redrawn", shop.battery(0), 994);
    }

    // "Otherwise, if the battery of the label has 20 or more, the label .. answers": below, no answer is there to be lost
    private static void noAnswerWithoutBattery() {
        for (int left : new int[] {0, 1, 18, 19}) {
            GlassLabels shop = Shops.withBattery(left);
            shop.loseAnswers(0, 2);
            shop.setPrice(0, 1);
            shop.pass(1);
            Check.due("no answer with " + left, shop.loseAnswers(0, 0), 2);
        }
        for (int left : new int[] {20, 21}) {
            GlassLabels shop = Shops.withBattery(left);
            shop.loseAnswers(0, 2);
            shop.setPrice(0, 1);
            shop.pass(1);
            Check.due("an answer with " + left, shop.loseAnswers(0, 0), 1);
        }
    }

    // carry: "an order that it has is forgotten"
    private static void carryForgetsTheOrder() {
        GlassLabels due = Shops.withLabels(1);
        due.setPrice(0, 1);
        due.carry(0, 1);
        Check.due("one that was due", due.order(0), GlassLabels.NONE);
        Check.due("it is not sent", due.pass(20), 0);
        GlassLabels waiting = Shops.withLabels(1);
        waiting.loseSendings(0, 1);
        waiting.setPrice(0, 1);
        waiting.pass(1);
        waiting.carry(0, 1);
        Check.due("one that was not due", waiting.orders(), 0);
        Check.due("it is not sent again", waiting.pass(20), 0);
        waiting.carry(0, 0);
        Check.due("back: a new one", waiting.order(0), 2);
    }

    // carry: "it gets a new one, if it does not show the price of that ware"; "Returns whether it gets an order"
    private static void carryOrdersIfAnotherPriceIsShown() {
        GlassLabels shop = Shops.showing(50);
        shop.setPrice(1, 49);
        shop.setPrice(2, 50);
        shop.setPrice(3, 51);
        Check.due("one less", shop.carry(0, 1), true);
        Check.due("the first order", shop.order(0), 1);
        Check.due("the same", shop.carry(0, 2), false);
        Check.due("no order", shop.order(0), GlassLabels.NONE);
        Check.due("one more", shop.carry(0, 3), true);
        Check.due("the second order", shop.order(0), 2);
        shop.pass(1);
        Check.due("the price of that ware is shown", shop.shown(0), 51);
    }

    // carry: "IllegalStateException if it is for this ware", whatever it shows
    private static void carryOnlyToAnotherWare() {
        GlassLabels shop = Shops.withLabels(2);
        Check.notNow("it shows the price", () -> shop.carry(0, 0));
        shop.setPrice(0, 5);
        Check.notNow("it shows another price", () -> shop.carry(0, 0));
        shop.carry(0, 11);
        Check.notNow("its new ware", () -> shop.carry(0, 11));
        Check.due("the other label may go there", shop.carry(1, 11), false);
        Check.due("and the first one back", shop.carry(0, 0), true);
    }

    // "it is due at once", of an order that carry makes
    private static void carryIsDueAtOnce() {
        GlassLabels shop = Shops.withLabels(1);
        shop.setPrice(1, 5);
        shop.loseSendings(0, 1);
        shop.pass(7);
        shop.carry(0, 1);
        Check.due("due", shop.nextToSend(), 0);
        Check.due("sent at 8, lost", shop.pass(1), 1);
        shop.carry(0, 2);
        shop.carry(0, 1);
        Check.due("due at once, not since the one before", shop.nextToSend(), 0);
        Check.due("sent at 9", shop.pass(1), 1);
        Check.due("it came", shop.shown(0), 5);
    }

    // pass: "Returns how many orders are sent in them, each time counted."
    private static void passCountsEachTime() {
        GlassLabels shop = Shops.withLabels(1);
        Check.due("none", shop.pass(200), 0);
        shop.loseSendings(0, 1);
        shop.loseAnswers(0, 1);
        shop.setPrice(0, 1);
        Check.due("a lost sending, a lost answer, and the one that is answered", shop.pass(11), 3);
        GlassLabels empty = Shops.withBattery(0);
        empty.setPrice(0, 1);
        Check.due("also without battery", empty.pass(200), 40);
    }

    // order: "Returns the number; NONE if it has none."
    private static void orderOfALabel() {
        GlassLabels shop = Shops.withLabels(1);
        Check.due("at first", shop.order(0), GlassLabels.NONE);
        shop.loseSendings(0, 1);
        shop.setPrice(0, 1);
        Check.due("made", shop.order(0), 1);
        shop.pass(1);
        Check.due("sent, not answered", shop.order(0), 1);
        shop.pass(5);
        Check.due("answered", shop.order(0), GlassLabels.NONE);
    }

    // orders: "Returns how many orders the radio has."
    private static void ordersFromNoneToAll() {
        GlassLabels shop = Shops.withLabels(12);
        Check.due("none", shop.orders(), 0);
        for (int label = 0; label < 12; label++) {
            shop.loseSendings(label, 1);
        }
        shop.setPrice(0, 1);
        Check.due("all", shop.orders(), 12);
        shop.pass(6);
        Check.due("those that are not due count too", shop.orders(), 12);
        shop.pass(1);
        Check.due("two are answered", shop.orders(), 10);
        shop.pass(5);
        Check.due("none", shop.orders(), 0);
    }
}
