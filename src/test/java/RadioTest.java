/** Promises 7 to 13: loseSendings, loseAnswers, pass, time, order, orders, nextToSend. */
public final class RadioTest {
    public static void main(String[] args) {
        loseSendings();
        loseSendingsWithAnEmptyBattery();
        loseSendingsRefuses();
        loseAnswers();
        loseAnswersOnlyOfAnswersThatAreGiven();
        loseAnswersRefuses();
        passCountsEachSending();
        passHasTwoSlotsAMinute();
        passSendsAgainFiveMinutesLater();
        passSendsTheLongestDueFirst();
        passWithoutBattery();
        passWithOneLessThanEnough();
        passRefuses();
        time();
        order();
        orders();
        nextToSend();
        Check.end();
    }

    private static void loseSendings() {
        GlassLabels shop = Shops.withLabels(2);
        Check.due("nothing told before", shop.loseSendings(0, 20), 0);
        Check.due("told before", shop.loseSendings(0, 2), 20);
        shop.setPrice(0, 1234);
        Check.due("both are sent", shop.pass(1), 2);
        Check.due("one is lost", shop.shown(0), 0);
        Check.due("nothing is redrawn", shop.battery(0), 999);
        Check.due("the other comes", shop.shown(1), 1234);
        Check.due("the lost one stays", shop.order(0), 1);
        Check.due("one would be lost yet", shop.loseSendings(0, 1), 1);
        shop.pass(5);
        Check.due("lost again", shop.shown(0), 0);
        shop.pass(5);
        Check.due("the third comes", shop.shown(0), 1234);
        Check.due("none is lost any more", shop.loseSendings(0, 3), 0);
        Check.due("the last word counts", shop.loseSendings(0, 0), 3);
        shop.setPrice(0, 1);
        shop.pass(1);
        Check.due("0 lets none be lost", shop.shown(0), 1);
    }

    private static void loseSendingsWithAnEmptyBattery() {
        GlassLabels shop = Shops.withLabels(1);
        for (int i = 0; i < 5; i++) {
            shop.pass(200);
        }
        shop.loseSendings(0, 1);
        shop.setPrice(0, 7);
        shop.pass(1);
        Check.due("it was lost, whatever would have come of it", shop.loseSendings(0, 0), 0);
    }

    private static void loseSendingsRefuses() {
        GlassLabels shop = Shops.withLabels(1);
        shop.loseSendings(0, 4);
        for (int count : new int[] {-1, 21, Integer.MIN_VALUE, Integer.MAX_VALUE}) {
            Check.outOfRange("loseSendings(0, " + count + ")", () -> shop.loseSendings(0, count));
            Check.noSuch("loseSendings(1, " + count + ")", () -> shop.loseSendings(1, count));
        }
        Check.noSuch("loseSendings(-1, 1)", () -> shop.loseSendings(-1, 1));
        Check.noSuch("loseSendings(1, 1)", () -> shop.loseSendings(1, 1));
        Check.due("refusals change nothing", shop.loseSendings(0, 0), 4);
    }

    private static void loseAnswers() {
        GlassLabels shop = Shops.withLabels(1);
        Check.due("nothing told before", shop.loseAnswers(0, 20), 0);
        Check.due("told before", shop.loseAnswers(0, 2), 20);
        shop.setPrice(0, 9);
        shop.pass(1);
        Check.due("the price is shown", shop.shown(0), 9);
        Check.due("the order stays", shop.order(0), 1);
        Check.due("redrawn once", shop.battery(0), 989);
        shop.pass(5);
        Check.due("not redrawn again", shop.battery(0), 984);
        Check.due("no more ghosts", shop.ghosts(0), 1);
        Check.due("the order stays", shop.order(0), 1);
        shop.pass(5);
        Check.due("the third answer comes back", shop.order(0), GlassLabels.NONE);
        Check.due("none would be lost", shop.loseAnswers(0, 0), 0);
    }

    private static void loseAnswersOnlyOfAnswersThatAreGiven() {
        GlassLabels shop = Shops.withLabels(1);
        shop.loseSendings(0, 1);
        shop.loseAnswers(0, 5);
        shop.setPrice(0, 9);
        shop.pass(1);
        Check.due("no answer to a lost sending", shop.loseAnswers(0, 5), 5);
        shop.pass(5);
        Check.due("one answer lost", shop.loseAnswers(0, 5), 4);
        for (int i = 0; i < 5; i++) {
            shop.pass(199);
        }
        shop.loseAnswers(0, 5);
        shop.setPrice(0, 8);
        Check.due("sent without battery", shop.pass(5), 1);
        Check.due("no answer without battery", shop.loseAnswers(0, 0), 5);
        Check.due("the sendings are another count", shop.loseSendings(0, 0), 0);
    }

    private static void loseAnswersRefuses() {
        GlassLabels shop = Shops.withLabels(1);
        shop.loseAnswers(0, 4);
        for (int count : new int[] {-1, 21, Integer.MIN_VALUE, Integer.MAX_VALUE}) {
            Check.outOfRange("loseAnswers(0, " + count + ")", () -> shop.loseAnswers(0, count));
            Check.noSuch("loseAnswers(1, " + count + ")", () -> shop.loseAnswers(1, count));
        }
        Check.noSuch("loseAnswers(-1, 1)", () -> shop.loseAnswers(-1, 1));
        Check.noSuch("loseAnswers(1, 1)", () -> shop.loseAnswers(1, 1));
        Check.due("refusals change nothing", shop.loseAnswers(0, 0), 4);
    }

    private static void passCountsEachSending() {
        GlassLabels shop = Shops.withLabels(1);
        Check.due("nothing to send", shop.pass(200), 0);
        shop.loseSendings(0, 20);
        shop.setPrice(0, 1);
        Check.due("at once, and each 5 minutes", shop.pass(15), 3);
        Check.due("the fourth", shop.pass(1), 1);
        Check.due("none", shop.pass(4), 0);
        Check.due("the fifth", shop.pass(1), 1);
    }

    private static void passHasTwoSlotsAMinute() {
        GlassLabels shop = Shops.withLabels(5);
        shop.setPrice(0, 1);
        Check.due("two", shop.pass(1), 2);
        Check.due("label 1", shop.shown(1), 1);
        Check.due("label 2", shop.shown(2), 0);
        Check.due("two more", shop.pass(1), 2);
        Check.due("the last", shop.pass(1), 1);
        Check.due("all done", shop.orders(), 0);
    }

    private static void passSendsAgainFiveMinutesLater() {
        GlassLabels shop = Shops.withLabels(1);
        shop.pass(10);
        shop.loseSendings(0, 1);
        shop.setPrice(0, 1);
        Check.due("sent at 11, lost", shop.pass(1), 1);
        Check.due("not at 12 to 15", shop.pass(4), 0);
        Check.due("not due at 15", shop.nextToSend(), GlassLabels.NONE);
        Check.due("sent again at 16", shop.pass(1), 1);
        Check.due("it came", shop.shown(0), 1);
    }

    private static void passSendsTheLongestDueFirst() {
        GlassLabels shop = Shops.withLabels(3);
        shop.hang(1);
        shop.loseSendings(0, 20);
        shop.loseSendings(1, 20);
        shop.loseSendings(2, 20);
        shop.setPrice(0, 1);
        shop.pass(1);
        // Orders 1 and 2 were sent at 1 and are due again at 6; order 3 was not sent yet.
        Check.due("order 3 waits since 0", shop.nextToSend(), 2);
        shop.pass(4);
        Check.due("order 3 is due at 7", shop.nextToSend(), GlassLabels.NONE);
        shop.setPrice(1, 1);
        Check.due("order 4 is due since 5", shop.nextToSend(), 3);
        Check.due("two at 6: 4 before 1, due since 6 alike with 2", shop.pass(1), 2);
        Check.due("order 4 was done", shop.order(3), GlassLabels.NONE);
        Check.due("order 2 is left, due since 6", shop.nextToSend(), 1);
        shop.setPrice(1, 2);
        Check.due("order 5 is due since 6 too, but has a higher number", shop.nextToSend(), 1);
        // A new order comes behind those that are due for longer, though its label has the lowest number.
        shop.carry(0, 2);
        shop.setPrice(2, 7);
        Check.due("label 0 has order 6", shop.order(0), 6);
        Check.due("label 1 is first yet", shop.nextToSend(), 1);
        Check.due("two", shop.pass(1), 2);
        Check.due("order 5 was done before 6 and 3", shop.shown(3), 2);
        Check.due("then order 6, due since 6, before order 3, due since 7", shop.nextToSend(), 0);
    }

    private static void passWithoutBattery() {
        GlassLabels shop = Shops.withLabels(1);
        for (int i = 0; i < 4; i++) {
            shop.pass(200);
        }
        shop.pass(180);
        Check.due("20 is left", shop.battery(0), 20);
        shop.setPrice(0, 1111);
        Check.due("sent", shop.pass(1), 1);
        Check.due("20 is enough", shop.shown(0), 1111);
        Check.due("10 for the redraw, 1 for the minute", shop.battery(0), 9);
        shop.setPrice(0, 1112);
        Check.due("sent at once and 5 minutes later", shop.pass(6), 2);
        Check.due("9 is not enough", shop.shown(0), 1111);
        Check.due("3 is left", shop.battery(0), 3);
        shop.setPrice(0, 1111);
        shop.pass(1);
        Check.due("no answer, though it shows this", shop.orders(), 1);
        shop.pass(10);
        Check.due("not below 0", shop.battery(0), 0);
        shop.charge(0);
        shop.pass(5);
        Check.due("answered with a new battery", shop.orders(), 0);
    }

    private static void passWithOneLessThanEnough() {
        GlassLabels shop = Shops.withLabels(1);
        for (int i = 0; i < 4; i++) {
            shop.pass(200);
        }
        shop.pass(181);
        Check.due("19 is left", shop.battery(0), 19);
        shop.setPrice(0, 1111);
        Check.due("sent", shop.pass(1), 1);
        Check.due("19 is not enough", shop.shown(0), 0);
        Check.due("no answer", shop.orders(), 1);
        Check.due("only the minute costs", shop.battery(0), 18);
    }

    private static void passRefuses() {
        GlassLabels shop = Shops.withLabels(1);
        for (int minutes : new int[] {0, -1, 201, Integer.MIN_VALUE, Integer.MAX_VALUE}) {
            Check.outOfRange("pass(" + minutes + ")", () -> shop.pass(minutes));
        }
        for (int i = 0; i < 49; i++) {
            shop.pass(200);
        }
        shop.pass(199);
        Check.due("time", shop.time(), 9999);
        Check.notNow("pass(2) at 9999", () -> shop.pass(2));
        Check.notNow("pass(200) at 9999", () -> shop.pass(200));
        Check.outOfRange("pass(201) at 9999", () -> shop.pass(201));
        Check.due("nothing passed", shop.time(), 9999);
        Check.due("the last minute", shop.pass(1), 0);
        Check.due("time", shop.time(), 10000);
        Check.notNow("pass(1) at 10000", () -> shop.pass(1));
        Check.outOfRange("pass(0) at 10000", () -> shop.pass(0));
    }

    private static void time() {
        GlassLabels shop = new GlassLabels();
        shop.pass(1);
        Check.due("time", shop.time(), 1);
        shop.pass(200);
        Check.due("time", shop.time(), 201);
        shop.hang(0);
        shop.setPrice(0, 1);
        Check.due("no other call takes time", shop.time(), 201);
    }

    private static void order() {
        GlassLabels shop = Shops.withLabels(2);
        Check.due("no order", shop.order(1), GlassLabels.NONE);
        shop.setPrice(0, 1);
        Check.due("order(0)", shop.order(0), 1);
        Check.due("order(1)", shop.order(1), 2);
        shop.loseSendings(1, 1);
        shop.pass(1);
        Check.due("done", shop.order(0), GlassLabels.NONE);
        Check.due("a sending again has the same number", shop.order(1), 2);
        Check.noSuch("order(-1)", () -> shop.order(-1));
        Check.noSuch("order(2)", () -> shop.order(2));
        Check.noSuch("order(12)", () -> shop.order(12));
    }

    private static void orders() {
        GlassLabels shop = Shops.withLabels(12);
        shop.setPrice(0, 1);
        Check.due("all twelve", shop.orders(), 12);
        shop.loseSendings(0, 1);
        shop.pass(1);
        Check.due("one done, one lost", shop.orders(), 11);
        shop.carry(11, 1);
        Check.due("one forgotten", shop.orders(), 10);
    }

    private static void nextToSend() {
        GlassLabels shop = Shops.withLabels(3);
        Check.due("no order", shop.nextToSend(), GlassLabels.NONE);
        shop.setPrice(0, 1);
        Check.due("the lowest number", shop.nextToSend(), 0);
        shop.carry(0, 1);
        shop.setPrice(1, 1);
        Check.due("label 0 has the highest number now", shop.nextToSend(), 1);
        Check.due("asking sends nothing", shop.nextToSend(), 1);
        shop.pass(2);
        Check.due("all done", shop.nextToSend(), GlassLabels.NONE);
        shop.loseAnswers(2, 1);
        shop.setPrice(0, 2);
        shop.pass(1);
        Check.due("an order, but not due", shop.nextToSend(), GlassLabels.NONE);
        shop.pass(4);
        Check.due("not due at 7", shop.nextToSend(), GlassLabels.NONE);
        Check.due("one is there", shop.orders(), 1);
    }
}
