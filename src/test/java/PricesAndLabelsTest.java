/** Promises 1 to 6: a new object, setPrice, price, hang, carry, charge. */
public final class PricesAndLabelsTest {
    private static final int[] NOT_A_WARE = {-1, 12, 13, Integer.MIN_VALUE, Integer.MAX_VALUE};

    public static void main(String[] args) {
        newObject();
        setPriceAnswersOrdersMade();
        setPriceOrdersByRisingLabels();
        setPriceAtTheEdges();
        setPriceRefuses();
        setPriceReplacesAnOrder();
        setPriceBackStillOrders();
        price();
        hang();
        hangRefuses();
        carryAnswersWhetherOrdered();
        carryForgetsAnOrder();
        carryKeepsWhatTheLabelIs();
        carryRefuses();
        charge();
        Check.end();
    }

    private static void newObject() {
        GlassLabels shop = new GlassLabels();
        Check.due("new: time", shop.time(), 0);
        Check.due("new: orders", shop.orders(), 0);
        Check.due("new: nextToSend", shop.nextToSend(), GlassLabels.NONE);
        Check.due("new: lies", shop.lies(), 0);
        for (int ware = 0; ware < 12; ware++) {
            Check.due("new: price " + ware, shop.price(ware), 0);
            Check.due("new: asked " + ware, shop.asked(ware), 0);
            Check.due("new: leastEver " + ware, shop.leastEver(ware), GlassLabels.NONE);
        }
        Check.noSuch("new: shown(0)", () -> shop.shown(0));
        Check.due("new: first label", shop.hang(0), 0);
        GlassLabels other = new GlassLabels();
        shop.setPrice(0, 5);
        Check.due("another new object has its own prices", other.price(0), 0);
        Check.noSuch("another new object has its own labels", () -> other.shown(0));
    }

    private static void setPriceAnswersOrdersMade() {
        GlassLabels shop = new GlassLabels();
        Check.due("setPrice without labels", shop.setPrice(3, 100), 0);
        shop.hang(3);
        shop.hang(4);
        shop.hang(3);
        Check.due("setPrice, two labels", shop.setPrice(3, 101), 2);
        Check.due("setPrice, the same", shop.setPrice(3, 101), 0);
        Check.due("setPrice, one label", shop.setPrice(4, 1), 1);
        Check.due("setPrice, of a ware without labels", shop.setPrice(5, 1), 0);
        Check.due("three orders", shop.orders(), 3);
    }

    private static void setPriceOrdersByRisingLabels() {
        GlassLabels shop = new GlassLabels();
        shop.hang(1);
        shop.hang(2);
        shop.hang(1);
        shop.setPrice(1, 10);
        Check.due("order of 0", shop.order(0), 1);
        Check.due("order of 1", shop.order(1), GlassLabels.NONE);
        Check.due("order of 2", shop.order(2), 2);
        shop.setPrice(2, 10);
        Check.due("numbers go on over all wares", shop.order(1), 3);
        shop.setPrice(1, 10);
        Check.due("the same price makes no order", shop.order(0), 1);
    }

    private static void setPriceAtTheEdges() {
        GlassLabels shop = new GlassLabels();
        shop.hang(0);
        shop.hang(11);
        Check.due("setPrice(0, 9999)", shop.setPrice(0, 9999), 1);
        Check.due("setPrice(11, 9999)", shop.setPrice(11, 9999), 1);
        Check.due("setPrice(11, 0)", shop.setPrice(11, 0), 1);
        Check.due("price of 0", shop.price(0), 9999);
        Check.due("price of 11", shop.price(11), 0);
    }

    private static void setPriceRefuses() {
        GlassLabels shop = new GlassLabels();
        shop.hang(0);
        shop.setPrice(0, 7);
        for (int ware : NOT_A_WARE) {
            Check.noSuch("setPrice(" + ware + ", 1)", () -> shop.setPrice(ware, 1));
            Check.noSuch("setPrice(" + ware + ", -1)", () -> shop.setPrice(ware, -1));
        }
        for (int price : new int[] {-1, 10000, Integer.MIN_VALUE, Integer.MAX_VALUE}) {
            Check.outOfRange("setPrice(0, " + price + ")", () -> shop.setPrice(0, price));
        }
        Check.due("price after refusals", shop.price(0), 7);
        Check.due("order after refusals", shop.order(0), 1);
        shop.setPrice(0, 8);
        Check.due("refusals use no number", shop.order(0), 2);
    }

    private static void setPriceReplacesAnOrder() {
        GlassLabels shop = new GlassLabels();
        shop.hang(0);
        shop.loseSendings(0, 1);
        shop.setPrice(0, 5);
        shop.pass(1);
        Check.due("sent, due again later", shop.nextToSend(), GlassLabels.NONE);
        shop.setPrice(0, 6);
        Check.due("one order in place of the other", shop.orders(), 1);
        Check.due("a new number", shop.order(0), 2);
        Check.due("due at once", shop.nextToSend(), 0);
        Check.due("sent once", shop.pass(1), 1);
        Check.due("the new price is shown", shop.shown(0), 6);
        Check.due("none is left", shop.pass(20), 0);
    }

    private static void setPriceBackStillOrders() {
        GlassLabels shop = new GlassLabels();
        shop.hang(0);
        shop.setPrice(0, 5);
        Check.due("back to what is shown", shop.setPrice(0, 0), 1);
        Check.due("order", shop.order(0), 2);
        Check.due("it is sent", shop.pass(1), 1);
        Check.due("nothing redrawn", shop.battery(0), 999);
        Check.due("no ghosts", shop.ghosts(0), 0);
        Check.due("done", shop.orders(), 0);
    }

    private static void price() {
        GlassLabels shop = new GlassLabels();
        for (int ware = 0; ware < 12; ware++) {
            shop.setPrice(ware, 100 + ware);
        }
        for (int ware = 0; ware < 12; ware++) {
            Check.due("price(" + ware + ")", shop.price(ware), 100 + ware);
        }
        for (int ware : NOT_A_WARE) {
            Check.noSuch("price(" + ware + ")", () -> shop.price(ware));
        }
    }

    private static void hang() {
        GlassLabels shop = new GlassLabels();
        shop.setPrice(11, 1234);
        Check.due("the first label", shop.hang(11), 0);
        Check.due("the second label", shop.hang(0), 1);
        Check.due("it shows the price of its ware", shop.shown(0), 1234);
        Check.due("the other shows that of its own", shop.shown(1), 0);
        Check.due("no order", shop.order(0), GlassLabels.NONE);
        Check.due("no ghosts", shop.ghosts(0), 0);
        Check.due("a full battery", shop.battery(0), 1000);
    }

    private static void hangRefuses() {
        GlassLabels shop = new GlassLabels();
        for (int ware : NOT_A_WARE) {
            Check.noSuch("hang(" + ware + ")", () -> shop.hang(ware));
        }
        for (int label = 0; label < 12; label++) {
            Check.due("hang", shop.hang(label % 3), label);
        }
        Check.notNow("hang a thirteenth", () -> shop.hang(0));
        for (int ware : NOT_A_WARE) {
            Check.noSuch("hang a thirteenth for " + ware, () -> shop.hang(ware));
        }
        Check.noSuch("no thirteenth hangs", () -> shop.shown(12));
        Check.due("four labels for each", shop.setPrice(2, 1), 4);
    }

    private static void carryAnswersWhetherOrdered() {
        GlassLabels shop = new GlassLabels();
        shop.setPrice(1, 50);
        shop.hang(0);
        Check.due("carry to another price", shop.carry(0, 1), true);
        Check.due("an order", shop.order(0), 1);
        Check.due("due at once", shop.nextToSend(), 0);
        shop.pass(1);
        Check.due("the price of its new ware", shop.shown(0), 50);
        shop.setPrice(2, 50);
        Check.due("carry to the same price", shop.carry(0, 2), false);
        Check.due("no order", shop.order(0), GlassLabels.NONE);
        Check.due("its new ware orders it", shop.setPrice(2, 51), 1);
        Check.due("its old ware does not", shop.setPrice(1, 51), 0);
    }

    private static void carryForgetsAnOrder() {
        GlassLabels shop = new GlassLabels();
        shop.hang(0);
        shop.setPrice(0, 5);
        Check.due("carry to what it shows", shop.carry(0, 1), false);
        Check.due("the order is forgotten", shop.orders(), 0);
        Check.due("nothing is sent", shop.pass(10), 0);
        Check.due("nothing is shown of it", shop.shown(0), 0);

        shop.setPrice(1, 6);
        shop.loseSendings(0, 1);
        shop.pass(1);
        Check.due("carry back", shop.carry(0, 0), true);
        Check.due("one order, a new one", shop.order(0), 3);
        Check.due("orders", shop.orders(), 1);
        Check.due("due at once", shop.nextToSend(), 0);
        shop.pass(1);
        Check.due("the price of ware 0", shop.shown(0), 5);
    }

    private static void carryKeepsWhatTheLabelIs() {
        GlassLabels shop = new GlassLabels();
        shop.hang(0);
        shop.setPrice(0, 9);
        shop.pass(1);
        shop.loseSendings(0, 3);
        shop.loseAnswers(0, 4);
        shop.carry(0, 5);
        Check.due("ghosts stay", shop.ghosts(0), 1);
        Check.due("the battery stays", shop.battery(0), 989);
        Check.due("what it shows stays", shop.shown(0), 9);
        Check.due("the lost sendings stay", shop.loseSendings(0, 0), 3);
        Check.due("the lost answers stay", shop.loseAnswers(0, 0), 4);
    }

    private static void carryRefuses() {
        GlassLabels shop = new GlassLabels();
        Check.noSuch("carry without labels", () -> shop.carry(0, 0));
        shop.hang(0);
        shop.setPrice(0, 3);
        for (int label : new int[] {-1, 1, 11, 12, Integer.MIN_VALUE, Integer.MAX_VALUE}) {
            Check.noSuch("carry(" + label + ", 1)", () -> shop.carry(label, 1));
        }
        for (int ware : NOT_A_WARE) {
            Check.noSuch("carry(0, " + ware + ")", () -> shop.carry(0, ware));
        }
        Check.notNow("carry to its own ware", () -> shop.carry(0, 0));
        Check.due("the order is not forgotten", shop.order(0), 1);
        Check.due("it is for its ware yet", shop.setPrice(0, 4), 1);
        Check.due("refusals use no number", shop.order(0), 2);
    }

    private static void charge() {
        GlassLabels shop = new GlassLabels();
        Check.noSuch("charge without labels", () -> shop.charge(0));
        shop.hang(0);
        shop.hang(0);
        Check.due("charge a full one", shop.charge(0), 1000);
        shop.pass(30);
        Check.due("charge", shop.charge(0), 970);
        Check.due("it has a new one", shop.battery(0), 1000);
        Check.due("the other has its old one", shop.battery(1), 970);
        Check.due("charge again", shop.charge(0), 1000);
        Check.noSuch("charge(-1)", () -> shop.charge(-1));
        Check.noSuch("charge(2)", () -> shop.charge(2));
    }
}
