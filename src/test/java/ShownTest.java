/** Promises 14 to 19: shown, ghosts, battery, lies, asked, leastEver. */
public final class ShownTest {
    public static void main(String[] args) {
        shown();
        ghostsOfChangedDigits();
        ghostsUpToNine();
        ghostsWithZerosAhead();
        battery();
        refusals();
        lies();
        liesOfAllLabels();
        askedIsThePriceOfTheTill();
        askedForAnHour();
        askedCountsEndsOfMinutes();
        askedStaysWithTheWare();
        leastEver();
        leastEverCountsEndsOfMinutes();
        Check.end();
    }

    private static void shown() {
        GlassLabels shop = Shops.showing(9999);
        Check.due("at first", shop.shown(0), 9999);
        shop.setPrice(0, 0);
        Check.due("until it is sent", shop.shown(0), 9999);
        shop.pass(1);
        Check.due("then", shop.shown(0), 0);
    }

    private static void ghostsOfChangedDigits() {
        int[] prices = {1234, 1235, 1245, 1345, 2345, 9349, 9249, 1111};
        int[] ghosts = {0, 1, 2, 3, 4, 6, 7, 0};
        int[] costs = {0, 10, 10, 10, 10, 10, 10, 20};
        GlassLabels shop = Shops.showing(prices[0]);
        for (int i = 1; i < prices.length; i++) {
            int before = shop.battery(0);
            Shops.change(shop, prices[i]);
            Check.due("ghosts after " + prices[i], shop.ghosts(0), ghosts[i]);
            Check.due("cost of " + prices[i], before - shop.battery(0), costs[i] + 1);
            Check.due("shown " + prices[i], shop.shown(0), prices[i]);
        }
    }

    private static void ghostsUpToNine() {
        GlassLabels shop = Shops.showing(0);
        for (int i = 1; i <= 9; i++) {
            Shops.change(shop, i);
            Check.due("ghosts after " + i, shop.ghosts(0), i);
        }
        Shops.change(shop, 8);
        Check.due("a tenth: redrawn wholly", shop.ghosts(0), 0);
        Check.due("9 parts, one whole, 10 minutes", shop.battery(0), 1000 - 90 - 20 - 10);
    }

    private static void ghostsWithZerosAhead() {
        GlassLabels shop = Shops.showing(5);
        Shops.change(shop, 105);
        Check.due("one digit", shop.ghosts(0), 1);
        Shops.change(shop, 5);
        Check.due("and back", shop.ghosts(0), 2);
        Shops.change(shop, 5000);
        Check.due("two digits", shop.ghosts(0), 4);
        Shops.change(shop, 0);
        Check.due("one digit", shop.ghosts(0), 5);
    }

    private static void battery() {
        GlassLabels shop = Shops.showing(0);
        shop.pass(200);
        Check.due("1 a minute", shop.battery(0), 800);
        Shops.change(shop, 1);
        Check.due("10 for a part", shop.battery(0), 789);
        shop.hang(0);
        Check.due("a new label", shop.battery(1), 1000);
        for (int i = 0; i < 4; i++) {
            shop.pass(200);
        }
        Check.due("none is left", shop.battery(0), 0);
        Check.due("of the other", shop.battery(1), 200);

        GlassLabels last = Shops.showing(0);
        for (int i = 1; i <= 9; i++) {
            Shops.change(last, i);
        }
        for (int i = 0; i < 8; i++) {
            last.pass(110);
        }
        last.pass(1);
        Check.due("20 is left", last.battery(0), 20);
        Shops.change(last, 1);
        Check.due("a whole redraw takes all, listening nothing", last.battery(0), 0);
        Check.due("it is shown", last.shown(0), 1);
    }

    private static void refusals() {
        GlassLabels shop = Shops.showing(3);
        for (int label : new int[] {-1, 1, 11, 12, 13, Integer.MIN_VALUE, Integer.MAX_VALUE}) {
            Check.noSuch("shown(" + label + ")", () -> shop.shown(label));
            Check.noSuch("ghosts(" + label + ")", () -> shop.ghosts(label));
            Check.noSuch("battery(" + label + ")", () -> shop.battery(label));
        }
        for (int ware : new int[] {-1, 12, 13, Integer.MIN_VALUE, Integer.MAX_VALUE}) {
            Check.noSuch("asked(" + ware + ")", () -> shop.asked(ware));
            Check.noSuch("leastEver(" + ware + ")", () -> shop.leastEver(ware));
        }
    }

    private static void lies() {
        GlassLabels shop = Shops.showing(100);
        shop.hang(1);
        shop.hang(0);
        Check.due("none", shop.lies(), 0);
        shop.setPrice(0, 101);
        Check.due("less than the price", shop.lies(), 5);
        shop.setPrice(0, 99);
        Check.due("more than the price is no lie", shop.lies(), 0);
        shop.setPrice(0, 102);
        shop.loseSendings(2, 1);
        shop.pass(1);
        Check.due("one is left", shop.lies(), 4);
        shop.carry(2, 1);
        Check.due("more than the price of its new ware", shop.lies(), 0);
        shop.carry(1, 0);
        Check.due("less than the price of its new ware", shop.lies(), 2);
    }

    private static void liesOfAllLabels() {
        GlassLabels shop = new GlassLabels();
        for (int label = 0; label < 12; label++) {
            shop.hang(label);
        }
        for (int ware = 0; ware < 12; ware++) {
            shop.setPrice(ware, 1);
        }
        Check.due("all", shop.lies(), 4095);
        shop.pass(1);
        Check.due("but 0 and 1", shop.lies(), 4092);
    }

    private static void askedIsThePriceOfTheTill() {
        GlassLabels shop = new GlassLabels();
        shop.setPrice(4, 70);
        Check.due("without labels", shop.asked(4), 70);
        shop.hang(4);
        Check.due("with a label", shop.asked(4), 70);
        shop.setPrice(4, 60);
        Check.due("a lower price holds at once", shop.asked(4), 60);
        shop.setPrice(4, 80);
        Check.due("what is shown now", shop.asked(4), 70);
        shop.hang(4);
        Check.due("the least of them", shop.asked(4), 70);
        Check.due("of another ware", shop.asked(3), 0);
    }

    private static void askedForAnHour() {
        GlassLabels shop = Shops.showing(50);
        shop.pass(100);
        Shops.change(shop, 80);
        // 50 was shown last at the end of the minute that made the time 100.
        Check.due("at 101", shop.asked(0), 50);
        shop.pass(58);
        Check.due("at 159", shop.asked(0), 50);
        shop.pass(1);
        Check.due("at 160", shop.asked(0), 80);

        GlassLabels falling = Shops.showing(30);
        falling.pass(1);
        Shops.change(falling, 40);
        Shops.change(falling, 50);
        falling.pass(57);
        Check.due("at 60: since 1", falling.asked(0), 30);
        falling.pass(1);
        Check.due("at 61: since 2", falling.asked(0), 40);
        falling.pass(1);
        Check.due("at 62: since 3", falling.asked(0), 50);
        falling.pass(200);
        Check.due("more than an hour at once", falling.asked(0), 50);
    }

    private static void askedCountsEndsOfMinutes() {
        GlassLabels shop = Shops.showing(50);
        Shops.change(shop, 80);
        Check.due("50 was shown at no end of a minute", shop.asked(0), 80);
        shop.setPrice(0, 10);
        shop.setPrice(0, 90);
        Check.due("a price that no label has shown does not count", shop.asked(0), 80);
    }

    private static void askedStaysWithTheWare() {
        GlassLabels shop = Shops.showing(20);
        shop.pass(1);
        shop.setPrice(1, 60);
        shop.setPrice(0, 70);
        shop.carry(0, 1);
        Check.due("what it showed stays with ware 0", shop.asked(0), 20);
        Check.due("what it shows now is for ware 1", shop.asked(1), 20);
        shop.pass(1);
        Check.due("it was redrawn before the end of the minute", shop.asked(1), 60);
        shop.pass(58);
        Check.due("at 60", shop.asked(0), 20);
        shop.pass(1);
        Check.due("at 61", shop.asked(0), 70);
    }

    private static void leastEver() {
        GlassLabels shop = new GlassLabels();
        Check.due("no label", shop.leastEver(0), GlassLabels.NONE);
        shop.setPrice(0, 9999);
        shop.pass(1);
        Check.due("a price alone does not count", shop.leastEver(0), GlassLabels.NONE);
        shop.hang(0);
        Check.due("what is shown now", shop.leastEver(0), 9999);
        Shops.change(shop, 40);
        Shops.change(shop, 30);
        Shops.change(shop, 50);
        shop.pass(200);
        Check.due("also more than an hour ago", shop.leastEver(0), 30);
        shop.carry(0, 1);
        Check.due("also without labels", shop.leastEver(0), 30);
        Check.due("now, of the other ware", shop.leastEver(1), 50);
        shop.pass(1);
        Check.due("then 0", shop.leastEver(1), 0);
        Check.due("of a third ware", shop.leastEver(2), GlassLabels.NONE);
    }

    private static void leastEverCountsEndsOfMinutes() {
        GlassLabels shop = Shops.showing(20);
        shop.setPrice(1, 20);
        shop.carry(0, 1);
        Check.due("shown at no end of a minute", shop.leastEver(0), GlassLabels.NONE);
        shop.setPrice(1, 90);
        shop.pass(1);
        Check.due("20 was never at the end of a minute", shop.leastEver(1), 90);
    }
}
