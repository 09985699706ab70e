/**
 * What the document says of batteries, redraws and ghosts: each sentence at its boundary, just inside it and just
 * outside it. Above each test stands the sentence that it holds the class to.
 */
public final class ScreensEdgesTest {
    public static void main(String[] args) {
        twentyIsEnoughToRedraw();
        twentyIsEnoughToAnswer();
        twentyIsEnoughForAWholeRedraw();
        nothingRedrawnIfShownAlready();
        nothingRedrawnWithNineGhosts();
        inPartCostsTen();
        aGhostForEachDigit();
        zerosAhead();
        digitsThatStayMakeNoGhost();
        ghostsUpToNineInPart();
        aWholeRedrawLeavesNoGhosts();
        ghostsOfALostAnswer();
        aMinuteOfListening();
        listeningWhileThereIsSome();
        slotsBeforeListening();
        chargeAnswersTheOldBattery();
        aNewBatteryOfAThousand();
        chargeChangesTheBatteryAlone();
        Check.end();
    }

    // "if the battery of the label has 20 or more, the label shows the price"; "costs 10 of the battery"
    private static void twentyIsEnoughToRedraw() {
        redrawWith(0, false, 0);
        redrawWith(1, false, 0);
        redrawWith(10, false, 9);
        redrawWith(18, false, 17);
        redrawWith(19, false, 18);
        redrawWith(20, true, 9);
        redrawWith(21, true, 10);
    }

    private static void redrawWith(int left, boolean shown, int leftThen) {
        GlassLabels shop = Shops.withBattery(left);
        shop.setPrice(0, 5);
        Check.due("sent with " + left, shop.pass(1), 1);
        Check.due("shown with " + left, shop.shown(0), shown ? 5 : 0);
        Check.due("ghosts with " + left, shop.ghosts(0), shown ? 1 : 0);
        Check.due("orders with " + left, shop.orders(), shown ? 0 : 1);
        Check.due("left of " + left, shop.battery(0), leftThen);
    }

    // "if the battery of the label has 20 or more, the label .. answers", also when nothing is redrawn
    private static void twentyIsEnoughToAnswer() {
        for (int left : new int[] {0, 19, 20, 21}) {
            GlassLabels shop = Shops.withBattery(left);
            shop.setPrice(0, 5);
            shop.setPrice(0, 0);
            shop.pass(1);
            Check.due("orders with " + left, shop.orders(), left < 20 ? 1 : 0);
            Check.due("left of " + left, shop.battery(0), Math.max(0, left - 1));
        }
    }

    // "it is redrawn wholly, which costs 20": of a battery of 20 that is all
    private static void twentyIsEnoughForAWholeRedraw() {
        wholeRedrawWith(19, false, 18);
        wholeRedrawWith(20, true, 0);
        wholeRedrawWith(21, true, 0);
        wholeRedrawWith(22, true, 1);
    }

    private static void wholeRedrawWith(int left, boolean shown, int leftThen) {
        GlassLabels shop = Shops.withGhosts(9);
        Shops.passLong(shop, shop.battery(0) - left);
        shop.setPrice(0, 8);
        Check.due("sent with " + left, shop.pass(1), 1);
        Check.due("shown with " + left, shop.shown(0), shown ? 8 : 9);
        Check.due("ghosts with " + left, shop.ghosts(0), shown ? 0 : 9);
        Check.due("left of " + left, shop.battery(0), leftThen);
    }

    // "(if it does so already, nothing is redrawn)"
    private static void nothingRedrawnIfShownAlready() {
        GlassLabels shop = Shops.showing(1234);
        shop.setPrice(0, 1235);
        shop.setPrice(0, 1234);
        shop.pass(1);
        Check.due("shown", shop.shown(0), 1234);
        Check.due("ghosts", shop.ghosts(0), 0);
        Check.due("only listening costs", shop.battery(0), 999);
        Check.due("it answers", shop.orders(), 0);
    }

    // "(if it does so already, nothing is redrawn)": nine ghosts are not more than nine
    private static void nothingRedrawnWithNineGhosts() {
        GlassLabels shop = Shops.withGhosts(9);
        int before = shop.battery(0);
        shop.setPrice(0, 0);
        shop.setPrice(0, 9);
        shop.pass(1);
        Check.due("ghosts stay", shop.ghosts(0), 9);
        Check.due("only listening costs", before - shop.battery(0), 1);
        Check.due("it answers", shop.orders(), 0);
    }

    // "To redraw a label in part costs 10 of the battery", however many digits are others
    private static void inPartCostsTen() {
        for (int price : new int[] {1, 11, 111, 1111}) {
            GlassLabels shop = Shops.withLabels(1);
            Shops.change(shop, price);
            Check.due("10 and 1 for " + price, shop.battery(0), 989);
        }
    }

    // "gives it a ghost for each of the four digits that is another one than before"
    private static void aGhostForEachDigit() {
        ghostsOfOneChange(1234, 1235, 1);
        ghostsOfOneChange(1234, 1244, 1);
        ghostsOfOneChange(1234, 1334, 1);
        ghostsOfOneChange(1234, 2234, 1);
        ghostsOfOneChange(1234, 1243, 2);
        ghostsOfOneChange(1234, 4231, 2);
        ghostsOfOneChange(1234, 2134, 2);
        ghostsOfOneChange(1234, 1342, 3);
        ghostsOfOneChange(1234, 2314, 3);
        ghostsOfOneChange(1234, 4321, 4);
        ghostsOfOneChange(1999, 2000, 4);
        ghostsOfOneChange(2000, 1999, 4);
        ghostsOfOneChange(9999, 0, 4);
    }

    private static void ghostsOfOneChange(int from, int to, int ghosts) {
        GlassLabels shop = Shops.showing(from);
        Shops.change(shop, to);
        Check.due("ghosts from " + from + " to " + to, shop.ghosts(0), ghosts);
        Check.due("shown from " + from + " to " + to, shop.shown(0), to);
    }

    // "(prices are shown with zeros ahead)"
    private static void zerosAhead() {
        ghostsOfOneChange(0, 1, 1);
        ghostsOfOneChange(0, 10, 1);
        ghostsOfOneChange(0, 100, 1);
        ghostsOfOneChange(0, 1000, 1);
        ghostsOfOneChange(1000, 0, 1);
        ghostsOfOneChange(9, 10, 2);
        ghostsOfOneChange(99, 100, 3);
        ghostsOfOneChange(999, 1000, 4);
        ghostsOfOneChange(1000, 999, 4);
        ghostsOfOneChange(0, 9999, 4);
    }

    // "each of the four digits that is another one than before": one that is the same at its place makes none
    private static void digitsThatStayMakeNoGhost() {
        ghostsOfOneChange(5050, 5051, 1);
        ghostsOfOneChange(5050, 505, 4);
        ghostsOfOneChange(5055, 555, 2);
        ghostsOfOneChange(10, 110, 1);
        ghostsOfOneChange(12, 120, 3);
    }

    // "if it would have more than 9 ghosts then, it is redrawn wholly, which costs 20, and it has no ghosts"
    private static void ghostsUpToNineInPart() {
        for (int before = 0; before <= 9; before++) {
            for (int digits = 1; digits <= 4; digits++) {
                ghostsBeforeAndAfter(before, digits);
            }
        }
    }

    private static void ghostsBeforeAndAfter(int before, int digits) {
        String what = before + " ghosts and " + digits + " digits: ";
        GlassLabels shop = Shops.withGhosts(before);
        Check.due(what + "before", shop.ghosts(0), before);
        int battery = shop.battery(0);
        int[] changed = {1000 + before, 1100 + before, 1110 + before, 1110 + (before + 1) % 10};
        Shops.change(shop, changed[digits - 1]);
        boolean whole = before + digits > 9;
        Check.due(what + "after", shop.ghosts(0), whole ? 0 : before + digits);
        Check.due(what + "cost", battery - shop.battery(0), (whole ? 20 : 10) + 1);
        Check.due(what + "shown", shop.shown(0), changed[digits - 1]);
    }

    // "redrawn wholly .., and it has no ghosts": the next ones are counted from none
    private static void aWholeRedrawLeavesNoGhosts() {
        GlassLabels shop = Shops.withGhosts(9);
        Shops.change(shop, 1110);
        Check.due("wholly, with all four digits", shop.ghosts(0), 0);
        Shops.change(shop, 1120);
        Check.due("then in part", shop.ghosts(0), 1);
        Shops.change(shop, 2211);
        Check.due("and again", shop.ghosts(0), 5);
        Shops.change(shop, 1122);
        Check.due("up to nine", shop.ghosts(0), 9);
        Shops.change(shop, 1123);
        Check.due("and wholly again", shop.ghosts(0), 0);
    }

    // "the label shows the price ..; if the answer is not lost, the order is done": redrawn with the lost answer, once
    private static void ghostsOfALostAnswer() {
        GlassLabels shop = Shops.withLabels(1);
        shop.loseAnswers(0, 1);
        Shops.change(shop, 1111);
        Check.due("redrawn", shop.ghosts(0), 4);
        shop.pass(5);
        Check.due("not again", shop.ghosts(0), 4);
        Check.due("answered", shop.orders(), 0);
        Check.due("six minutes and a redraw", shop.battery(0), 1000 - 10 - 6);
    }

    // "then each label listens, which costs 1 of its battery"
    private static void aMinuteOfListening() {
        GlassLabels shop = Shops.withLabels(12);
        shop.pass(1);
        for (int label = 0; label < 12; label++) {
            Check.due("one minute, label " + label, shop.battery(label), 999);
        }
        shop.pass(200);
        Check.due("201 minutes", shop.battery(11), 799);
    }

    // "which costs 1 of its battery, if it has some"
    private static void listeningWhileThereIsSome() {
        GlassLabels shop = Shops.withBattery(2);
        Check.due("2", shop.battery(0), 2);
        shop.pass(1);
        Check.due("1", shop.battery(0), 1);
        shop.pass(1);
        Check.due("0", shop.battery(0), 0);
        shop.pass(1);
        Check.due("0 yet", shop.battery(0), 0);
        shop.pass(200);
        Check.due("and for long", shop.battery(0), 0);
    }

    // "then its slots; then each label listens": with 20 at the minute's start it redraws
    private static void slotsBeforeListening() {
        GlassLabels shop = Shops.withBattery(20);
        shop.setPrice(0, 1);
        shop.pass(1);
        Check.due("it comes", shop.shown(0), 1);
        GlassLabels late = Shops.withBattery(21);
        late.hang(0);
        late.hang(0);
        late.carry(0, 1);
        late.setPrice(0, 1);
        late.setPrice(1, 1);
        Check.due("the two others first", late.pass(1), 2);
        Check.due("20 is left", late.battery(0), 20);
        late.pass(1);
        Check.due("it comes in the second minute", late.shown(0), 1);
    }

    // charge: "Returns what the old one had."
    private static void chargeAnswersTheOldBattery() {
        for (int left : new int[] {1000, 999, 20, 1, 0}) {
            GlassLabels shop = Shops.withBattery(left);
            Check.due("charge with " + left, shop.charge(0), left);
            Check.due("then", shop.battery(0), 1000);
            Check.due("charge again", shop.charge(0), 1000);
        }
    }

    // charge: "Gives a label a new battery of 1000.", not more, and to that label alone
    private static void aNewBatteryOfAThousand() {
        GlassLabels shop = Shops.withLabels(3);
        shop.pass(200);
        shop.charge(1);
        Check.due("the one below", shop.battery(0), 800);
        Check.due("the one", shop.battery(1), 1000);
        Check.due("the one above", shop.battery(2), 800);
        shop.pass(1);
        Check.due("it listens as any", shop.battery(1), 999);
    }

    // charge: nothing is said of ghosts, orders and what is lost: they stay
    private static void chargeChangesTheBatteryAlone() {
        GlassLabels shop = Shops.withGhosts(9);
        shop.loseSendings(0, 2);
        shop.loseAnswers(0, 3);
        shop.setPrice(0, 5);
        shop.pass(1);
        shop.charge(0);
        Check.due("ghosts", shop.ghosts(0), 9);
        Check.due("shown", shop.shown(0), 9);
        Check.due("order", shop.order(0), 10);
        Check.due("it is not due", shop.nextToSend(), GlassLabels.NONE);
        Check.due("sendings", shop.loseSendings(0, 0), 1);
        Check.due("answers", shop.loseAnswers(0, 0), 3);
        Check.due("it is not sent before its time", shop.pass(4), 0);
        Check.due("it is sent then", shop.pass(1), 1);
    }
}
