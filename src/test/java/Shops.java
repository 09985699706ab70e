/** Shops in a state that several tests start from, and short ways there. */
final class Shops {
    private static final int MOST_MINUTES_AT_ONCE = 200;

    private Shops() {
    }

    /** Labels 0 up, all for the ware 0, all showing 0. */
    static GlassLabels withLabels(int labels) {
        GlassLabels shop = new GlassLabels();
        for (int label = 0; label < labels; label++) {
            shop.hang(0);
        }
        return shop;
    }

    /** One label, for the ware 0, that shows the price. */
    static GlassLabels showing(int price) {
        GlassLabels shop = new GlassLabels();
        shop.setPrice(0, price);
        shop.hang(0);
        return shop;
    }

    /** One label, for the ware 0, that shows 0, with so much of its battery left. */
    static GlassLabels withBattery(int left) {
        GlassLabels shop = withLabels(1);
        passLong(shop, 1000 - left);
        return shop;
    }

    /** One label, for the ware 0, with 0 to 9 ghosts; it shows 0 to 9 then, as many as the ghosts. */
    static GlassLabels withGhosts(int ghosts) {
        GlassLabels shop = withLabels(1);
        for (int price = 1; price <= ghosts; price++) {
            change(shop, price);
        }
        return shop;
    }

    /** A new price for the ware 0, and the minute in which its labels, up to two, show it. */
    static void change(GlassLabels shop, int price) {
        shop.setPrice(0, price);
        shop.pass(1);
    }

    /** Lets more minutes pass than one call may; answers how many orders were sent. */
    static int passLong(GlassLabels shop, int minutes) {
        int sent = 0;
        for (int left = minutes; left > 0; left -= MOST_MINUTES_AT_ONCE) {
            sent += shop.pass(Math.min(left, MOST_MINUTES_AT_ONCE));
        }
        return sent;
    }
}
