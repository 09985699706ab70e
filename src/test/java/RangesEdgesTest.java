/**
 * The ranges that the document names: at each end, just inside it and just outside it. Above each test stands the
 * sentence that it holds the class to. What refused calls leave alone is tested by RefusedCallsTest.
 */
public final class RangesEdgesTest {
    private static final int[] WARES_AT_THE_EDGES = {0, 1, 10, 11};
    private static final int[] NOT_A_WARE = {-1, 12, 13, -12, 65536, Integer.MIN_VALUE, Integer.MAX_VALUE};

    public static void main(String[] args) {
        waresOfSetPrice();
        waresOfPrice();
        waresOfHang();
        waresOfCarry();
        waresOfAsked();
        waresOfLeastEver();
        pricesOfSetPrice();
        pricesAtFirst();
        labelsNumberedFromZero();
        atMostTwelveLabels();
        carryingMakesNoRoom();
        noLabelsAtFirst();
        onlyLabelsThatHang();
        aLabelAtFirst();
        aLabelShowsThePriceOfWhenItIsHung();
        countsOfLoseSendings();
        countsOfLoseAnswers();
        minutesOfPass();
        timeFromZeroOn();
        timeUpToTenThousand();
        fiveHundredAndTwelveCalls();
        Check.end();
    }

    // "Wares are 0 to 11"; setPrice: "IndexOutOfBoundsException if there is no such ware"
    private static void waresOfSetPrice() {
        GlassLabels shop = new GlassLabels();
        for (int ware : WARES_AT_THE_EDGES) {
            Check.due("setPrice(" + ware + ", 5)", shop.setPrice(ware, 5), 0);
            Check.due("it is set", shop.price(ware), 5);
        }
        Check.due("its neighbour keeps its own", shop.price(2), 0);
        for (int ware : NOT_A_WARE) {
            Check.noSuch("setPrice(" + ware + ", 5)", () -> shop.setPrice(ware, 5));
        }
    }

    // "Wares are 0 to 11"; price: "IndexOutOfBoundsException if there is no such ware"
    private static void waresOfPrice() {
        GlassLabels shop = new GlassLabels();
        for (int ware : WARES_AT_THE_EDGES) {
            Check.due("price(" + ware + ")", shop.price(ware), 0);
        }
        for (int ware : NOT_A_WARE) {
            Check.noSuch("price(" + ware + ")", () -> shop.price(ware));
        }
    }

    // "Wares are 0 to 11"; hang: "IndexOutOfBoundsException if there is no such ware"
    private static void waresOfHang() {
        GlassLabels shop = new GlassLabels();
        int hung = 0;
        for (int ware : WARES_AT_THE_EDGES) {
            Check.due("hang(" + ware + ")", shop.hang(ware), hung);
            Check.due("it is for ware " + ware, shop.setPrice(ware, 1), 1);
            hung++;
        }
        for (int ware : NOT_A_WARE) {
            Check.noSuch("hang(" + ware + ")", () -> shop.hang(ware));
        }
    }

    // "Wares are 0 to 11"; carry: "IndexOutOfBoundsException if there is no such label or ware"
    private static void waresOfCarry() {
        GlassLabels shop = new GlassLabels();
        shop.hang(5);
        for (int ware : WARES_AT_THE_EDGES) {
            Check.due("carry(0, " + ware + ")", shop.carry(0, ware), false);
            Check.due("it is for ware " + ware, shop.setPrice(ware, 1), 1);
        }
        for (int ware : NOT_A_WARE) {
            Check.noSuch("carry(0, " + ware + ")", () -> shop.carry(0, ware));
        }
    }

    // "Wares are 0 to 11"; asked: "IndexOutOfBoundsException if there is no such ware"
    private static void waresOfAsked() {
        GlassLabels shop = new GlassLabels();
        for (int ware : WARES_AT_THE_EDGES) {
            shop.setPrice(ware, 100 + ware);
        }
        for (int ware : WARES_AT_THE_EDGES) {
            Check.due("asked(" + ware + ")", shop.asked(ware), 100 + ware);
        }
        for (int ware : NOT_A_WARE) {
            Check.noSuch("asked(" + ware + ")", () -> shop.asked(ware));
        }
    }

    // "Wares are 0 to 11"; leastEver: "IndexOutOfBoundsException if there is no such ware"
    private static void waresOfLeastEver() {
        GlassLabels shop = new GlassLabels();
        for (int ware : WARES_AT_THE_EDGES) {
            shop.setPrice(ware, 100 + ware);
            Check.due("leastEver(" + ware + ") without labels", shop.leastEver(ware), GlassLabels.NONE);
            shop.hang(ware);
        }
        for (int ware : WARES_AT_THE_EDGES) {
            Check.due("leastEver(" + ware + ")", shop.leastEver(ware), 100 + ware);
        }
        for (int ware : NOT_A_WARE) {
            Check.noSuch("leastEver(" + ware + ")", () -> shop.leastEver(ware));
        }
    }

    // "each has a price, 0 to 9999"; "IllegalArgumentException if price is out of range"
    private static void pricesOfSetPrice() {
        GlassLabels shop = Shops.withLabels(1);
        for (int price : new int[] {1, 0, 9998, 9999, 0}) {
            Check.due("setPrice(0, " + price + ")", shop.setPrice(0, price), 1);
            Check.due("it is set", shop.price(0), price);
            shop.pass(1);
            Check.due("it is shown", shop.shown(0), price);
        }
        for (int price : new int[] {-1, -2, 10000, 10001, 65536, Integer.MIN_VALUE, Integer.MAX_VALUE}) {
            Check.outOfRange("setPrice(0, " + price + ")", () -> shop.setPrice(0, price));
        }
    }

    // "each has a price, 0 to 9999, at first 0"
    private static void pricesAtFirst() {
        GlassLabels shop = new GlassLabels();
        for (int ware = 0; ware < 12; ware++) {
            Check.due("price(" + ware + ") at first", shop.price(ware), 0);
        }
    }

    // "Labels are numbered from 0"
    private static void labelsNumberedFromZero() {
        GlassLabels shop = new GlassLabels();
        Check.due("the first", shop.hang(7), 0);
        Check.due("the second", shop.hang(7), 1);
        Check.due("the third, for another ware", shop.hang(3), 2);
    }

    // "at most 12"; hang: "IllegalStateException if there are 12"
    private static void atMostTwelveLabels() {
        GlassLabels shop = Shops.withLabels(10);
        Check.due("the eleventh", shop.hang(11), 10);
        Check.due("the twelfth", shop.hang(11), 11);
        Check.notNow("a thirteenth", () -> shop.hang(11));
        Check.notNow("a thirteenth for another ware", () -> shop.hang(0));
        Check.due("two are for ware 11", shop.setPrice(11, 5), 2);
        Check.due("the twelfth has an order", shop.order(11), 2);
        shop.pass(1);
        Check.due("the twelfth shows it", shop.shown(11), 5);
        Check.due("the twelfth is redrawn and listens as any", shop.battery(11), 1000 - 10 - 1);
    }

    // "at most 12": a label that is carried stays one of them
    private static void carryingMakesNoRoom() {
        GlassLabels shop = Shops.withLabels(12);
        shop.carry(11, 1);
        Check.notNow("hang after a carry", () -> shop.hang(0));
    }

    // "Opens the shop at the time 0, without labels."
    private static void noLabelsAtFirst() {
        GlassLabels shop = new GlassLabels();
        noSuchLabel(shop, 0);
        Check.due("time", shop.time(), 0);
        Check.due("orders", shop.orders(), 0);
        Check.due("nextToSend", shop.nextToSend(), GlassLabels.NONE);
        Check.due("lies", shop.lies(), 0);
        Check.due("nothing is sent", shop.pass(200), 0);
    }

    // "IndexOutOfBoundsException if there is no such label", of each call that takes a label
    private static void onlyLabelsThatHang() {
        GlassLabels shop = new GlassLabels();
        for (int hung = 1; hung <= 12; hung++) {
            shop.hang(0);
            if (hung == 1 || hung == 2 || hung == 11 || hung == 12) {
                Check.due("shown of the last", shop.shown(hung - 1), 0);
                Check.due("ghosts of the last", shop.ghosts(hung - 1), 0);
                Check.due("battery of the last", shop.battery(hung - 1), 1000);
                Check.due("order of the last", shop.order(hung - 1), GlassLabels.NONE);
                Check.due("charge of the last", shop.charge(hung - 1), 1000);
                Check.due("loseSendings of the last", shop.loseSendings(hung - 1, 0), 0);
                Check.due("loseAnswers of the last", shop.loseAnswers(hung - 1, 0), 0);
                Check.due("carry of the last", shop.carry(hung - 1, 1), false);
                noSuchLabel(shop, hung);
                noSuchLabel(shop, -1);
            }
        }
        noSuchLabel(shop, 13);
        noSuchLabel(shop, Integer.MIN_VALUE);
        noSuchLabel(shop, Integer.MAX_VALUE);
    }

    private static void noSuchLabel(GlassLabels shop, int label) {
        Check.noSuch("shown(" + label + ")", () -> shop.shown(label));
        Check.noSuch("ghosts(" + label + ")", () -> shop.ghosts(label));
        Check.noSuch("battery(" + label + ")", () -> shop.battery(label));
        Check.noSuch("order(" + label + ")", () -> shop.order(label));
        Check.noSuch("charge(" + label + ")", () -> shop.charge(label));
        Check.noSuch("loseSendings(" + label + ", 1)", () -> shop.loseSendings(label, 1));
        Check.noSuch("loseAnswers(" + label + ", 1)", () -> shop.loseAnswers(label, 1));
        Check.noSuch("carry(" + label + ", 2)", () -> shop.carry(label, 2));
    }

    // "has ghosts, 0 at first, and a battery, 1000 at first", also of a label that is hung late
    private static void aLabelAtFirst() {
        GlassLabels shop = Shops.withGhosts(3);
        shop.hang(0);
        Check.due("ghosts", shop.ghosts(1), 0);
        Check.due("battery", shop.battery(1), 1000);
        Check.due("order", shop.order(1), GlassLabels.NONE);
        Check.due("sendings to lose", shop.loseSendings(1, 0), 0);
        Check.due("answers to lose", shop.loseAnswers(1, 0), 0);
    }

    // "shows a price, that of its ware when it is hung"
    private static void aLabelShowsThePriceOfWhenItIsHung() {
        GlassLabels shop = new GlassLabels();
        shop.setPrice(0, 9999);
        shop.setPrice(1, 1);
        shop.hang(0);
        shop.hang(1);
        shop.setPrice(0, 0);
        shop.hang(0);
        Check.due("9999 when it was hung", shop.shown(0), 9999);
        Check.due("of its own ware", shop.shown(1), 1);
        Check.due("0 when it was hung", shop.shown(2), 0);
        Check.due("only the one that hung has an order", shop.orders(), 1);
    }

    // loseSendings: "count: 0 to 20"; "IllegalArgumentException if count is out of range"; "how many would have been lost"
    private static void countsOfLoseSendings() {
        GlassLabels shop = Shops.withLabels(1);
        int told = 0;
        for (int count : new int[] {1, 19, 20, 0, 20}) {
            Check.due("loseSendings(0, " + count + ")", shop.loseSendings(0, count), told);
            told = count;
        }
        for (int count : new int[] {-1, -2, 21, 22, 256, Integer.MIN_VALUE, Integer.MAX_VALUE}) {
            Check.outOfRange("loseSendings(0, " + count + ")", () -> shop.loseSendings(0, count));
        }
        shop.setPrice(0, 5);
        // The twentieth is sent at 1 + 19 * 5.
        Check.due("twenty are sent", shop.pass(96), 20);
        Check.due("all are lost", shop.shown(0), 0);
        Check.due("the next", shop.pass(5), 1);
        Check.due("comes", shop.shown(0), 5);
    }

    // loseAnswers: "count: 0 to 20"; "IllegalArgumentException if count is out of range"; "how many would have been lost"
    private static void countsOfLoseAnswers() {
        GlassLabels shop = Shops.withLabels(1);
        int told = 0;
        for (int count : new int[] {1, 19, 20, 0, 20}) {
            Check.due("loseAnswers(0, " + count + ")", shop.loseAnswers(0, count), told);
            told = count;
        }
        for (int count : new int[] {-1, -2, 21, 22, 256, Integer.MIN_VALUE, Integer.MAX_VALUE}) {
            Check.outOfRange("loseAnswers(0, " + count + ")", () -> shop.loseAnswers(0, count));
        }
        shop.setPrice(0, 5);
        Check.due("twenty are sent", shop.pass(100), 20);
        Check.due("no answer came back", shop.order(0), 1);
        Check.due("the next", shop.pass(1), 1);
        Check.due("is answered", shop.order(0), GlassLabels.NONE);
    }

    // pass: "minutes: 1 to 200"; "IllegalArgumentException if minutes is out of range"
    private static void minutesOfPass() {
        GlassLabels shop = new GlassLabels();
        int time = 0;
        for (int minutes : new int[] {1, 2, 199, 200}) {
            Check.due("pass(" + minutes + ")", shop.pass(minutes), 0);
            time += minutes;
            Check.due("time after pass(" + minutes + ")", shop.time(), time);
        }
        for (int minutes : new int[] {0, -1, 201, 202, 65536, Integer.MIN_VALUE, Integer.MAX_VALUE}) {
            Check.outOfRange("pass(" + minutes + ")", () -> shop.pass(minutes));
        }
    }

    // "Time is in minutes, from 0 on."
    private static void timeFromZeroOn() {
        GlassLabels shop = new GlassLabels();
        Check.due("at first", shop.time(), 0);
        shop.pass(1);
        Check.due("after a minute", shop.time(), 1);
    }

    // pass: "IllegalStateException if the time would be above 10000"
    private static void timeUpToTenThousand() {
        Check.due("200 to just 10000", timeAfter(9800, 200), 10000);
        Check.due("199 to 9999", timeAfter(9800, 199), 9999);
        Check.due("199 to just 10000", timeAfter(9801, 199), 10000);
        Check.due("1 to just 10000", timeAfter(9999, 1), 10000);
        notNowAt(9801, 200);
        notNowAt(9802, 200);
        notNowAt(9802, 199);
        notNowAt(9999, 2);
        notNowAt(10000, 1);
        notNowAt(10000, 200);
    }

    private static int timeAfter(int time, int minutes) {
        GlassLabels shop = new GlassLabels();
        Shops.passLong(shop, time);
        shop.pass(minutes);
        return shop.time();
    }

    private static void notNowAt(int time, int minutes) {
        GlassLabels shop = new GlassLabels();
        Shops.passLong(shop, time);
        Check.notNow("pass(" + minutes + ") at " + time, () -> shop.pass(minutes));
        Check.due("time after it", shop.time(), time);
    }

    // "An object is used for at most 512 calls after it has been made"
    private static void fiveHundredAndTwelveCalls() {
        GlassLabels shop = Shops.withLabels(12);
        for (int call = 13; call <= 510; call++) {
            Check.due("call " + call, shop.setPrice(0, call), 12);
        }
        Check.due("call 511", shop.order(11), 498 * 12);
        Check.due("call 512", shop.pass(200), 12);
    }
}
