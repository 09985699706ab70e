import java.util.ArrayList;
import java.util.List;

/**
 * "A call that throws an exception changes nothing", and "if several exceptions of a throws clause apply, the one
 * that is listed first is thrown". In several states of a shop each call that is refused there is made; what all
 * others answer then is held against what they answered before, and what the shop does later against what one does
 * that never was asked for it. No object gets more than the 512 calls that the document promises for.
 */
public final class RefusedCallsTest {
    private static final int LABELS = 12;
    private static final int WARES = 12;
    private static final int LAST_TIME = 10000;

    private interface Play {
        void on(GlassLabels shop);
    }

    /** How a shop comes to be, with what must be known of it to tell which calls it refuses. */
    private record Scene(String name, int hung, int firstWare, int lastWare, int time, Play play) {
        GlassLabels shop() {
            GlassLabels shop = new GlassLabels();
            play.on(shop);
            return shop;
        }
    }

    private record Refused(String call, Class<?> due, Play play) {
    }

    public static void main(String[] args) {
        setPriceThrowsTheFirstListed();
        hangThrowsTheFirstListed();
        carryThrowsTheFirstListed();
        loseSendingsThrowsTheFirstListed();
        loseAnswersThrowsTheFirstListed();
        passThrowsTheFirstListed();
        refusedCallsChangeNothing(new Scene("a new shop", 0, 0, 0, 0, shop -> { }));
        refusedCallsChangeNothing(new Scene("one label", 1, 7, 7, 1, RefusedCallsTest::hangOneLabel));
        refusedCallsChangeNothing(new Scene("eleven labels", 11, 3, 3, 6, RefusedCallsTest::hangElevenLabels));
        refusedCallsChangeNothing(new Scene("a full row", LABELS, 0, 4, 11, RefusedCallsTest::fillTheRow));
        refusedCallsChangeNothing(new Scene("shortly before the end", 1, 0, 0, 9990, RefusedCallsTest::comeNearTheEnd));
        refusedCallsChangeNothing(new Scene("the end of time", LABELS, 0, 11, LAST_TIME, RefusedCallsTest::comeToTheEnd));
        Check.end();
    }

    // ---- which exception comes first

    private static void setPriceThrowsTheFirstListed() {
        GlassLabels shop = Shops.withLabels(1);
        Check.noSuch("setPrice(-1, -1)", () -> shop.setPrice(-1, -1));
        Check.noSuch("setPrice(12, 10000)", () -> shop.setPrice(12, 10000));
        Check.outOfRange("setPrice(11, 10000)", () -> shop.setPrice(11, 10000));
    }

    private static void hangThrowsTheFirstListed() {
        GlassLabels shop = Shops.withLabels(LABELS);
        Check.noSuch("hang(-1), 12 hang", () -> shop.hang(-1));
        Check.noSuch("hang(12), 12 hang", () -> shop.hang(12));
        Check.notNow("hang(11), 12 hang", () -> shop.hang(11));
    }

    private static void carryThrowsTheFirstListed() {
        GlassLabels shop = Shops.withLabels(1);
        Check.noSuch("carry(1, 0)", () -> shop.carry(1, 0));
        Check.noSuch("carry(1, 12)", () -> shop.carry(1, 12));
        Check.noSuch("carry(-1, -1)", () -> shop.carry(-1, -1));
        Check.noSuch("carry(0, 12)", () -> shop.carry(0, 12));
        Check.notNow("carry(0, 0)", () -> shop.carry(0, 0));
    }

    private static void loseSendingsThrowsTheFirstListed() {
        GlassLabels shop = Shops.withLabels(1);
        Check.noSuch("loseSendings(1, 21)", () -> shop.loseSendings(1, 21));
        Check.noSuch("loseSendings(-1, -1)", () -> shop.loseSendings(-1, -1));
        Check.outOfRange("loseSendings(0, 21)", () -> shop.loseSendings(0, 21));
    }

    private static void loseAnswersThrowsTheFirstListed() {
        GlassLabels shop = Shops.withLabels(1);
        Check.noSuch("loseAnswers(1, 21)", () -> shop.loseAnswers(1, 21));
        Check.noSuch("loseAnswers(-1, -1)", () -> shop.loseAnswers(-1, -1));
        Check.outOfRange("loseAnswers(0, 21)", () -> shop.loseAnswers(0, 21));
    }

    private static void passThrowsTheFirstListed() {
        GlassLabels shop = new GlassLabels();
        Shops.passLong(shop, 9999);
        Check.outOfRange("pass(201) at 9999", () -> shop.pass(201));
        Check.outOfRange("pass(0) at 9999", () -> shop.pass(0));
        Check.outOfRange("pass(" + Integer.MAX_VALUE + ") at 9999", () -> shop.pass(Integer.MAX_VALUE));
        Check.notNow("pass(200) at 9999", () -> shop.pass(200));
        Check.notNow("pass(2) at 9999", () -> shop.pass(2));
    }

    // ---- the states of a shop

    private static void hangOneLabel(GlassLabels shop) {
        shop.hang(7);
        shop.setPrice(7, 5);
        shop.loseSendings(0, 3);
        shop.loseAnswers(0, 4);
        shop.pass(1);
    }

    private static void hangElevenLabels(GlassLabels shop) {
        for (int label = 0; label < 11; label++) {
            shop.hang(3);
        }
        shop.setPrice(3, 60);
        shop.pass(4);
        shop.setPrice(4, 61);
        shop.carry(5, 4);
        shop.pass(2);
    }

    private static void fillTheRow(GlassLabels shop) {
        for (int ware = 0; ware < WARES; ware++) {
            shop.setPrice(ware, 100 * ware + 7);
        }
        for (int label = 0; label < LABELS; label++) {
            shop.hang(label == LABELS - 1 ? 4 : label % 5);
        }
        shop.loseSendings(3, 2);
        shop.loseAnswers(4, 3);
        shop.pass(7);
        shop.setPrice(0, 1234);
        shop.setPrice(4, 2);
        shop.pass(1);
        shop.carry(2, 9);
        shop.pass(3);
        shop.setPrice(3, 9999);
    }

    private static void comeNearTheEnd(GlassLabels shop) {
        shop.setPrice(0, 40);
        shop.hang(0);
        Shops.passLong(shop, 9985);
        shop.charge(0);
        shop.setPrice(0, 50);
        shop.pass(2);
        shop.setPrice(0, 60);
        shop.loseSendings(0, 1);
        shop.pass(3);
    }

    private static void comeToTheEnd(GlassLabels shop) {
        for (int label = 0; label < LABELS; label++) {
            shop.hang(label);
        }
        Shops.passLong(shop, LAST_TIME);
        shop.charge(0);
        shop.setPrice(0, 50);
        shop.loseSendings(0, 1);
        shop.loseAnswers(11, 2);
    }

    // ---- the calls that it refuses

    private static List<Refused> refusedIn(Scene scene) {
        List<Refused> all = new ArrayList<>();
        for (int ware : new int[] {-1, WARES, Integer.MIN_VALUE, Integer.MAX_VALUE}) {
            addWithoutWare(all, ware);
        }
        for (int price : new int[] {-1, 10000, Integer.MIN_VALUE, Integer.MAX_VALUE}) {
            badArgument(all, "setPrice(0, " + price + ")", shop -> shop.setPrice(0, price));
            badArgument(all, "setPrice(11, " + price + ")", shop -> shop.setPrice(11, price));
        }
        for (int label : new int[] {-1, scene.hung, LABELS, Integer.MIN_VALUE, Integer.MAX_VALUE}) {
            addWithoutLabel(all, label);
        }
        if (scene.hung > 0) {
            addOfLabel(all, 0, scene.firstWare);
            addOfLabel(all, scene.hung - 1, scene.lastWare);
        }
        if (scene.hung == LABELS) {
            notNow(all, "hang(0)", shop -> shop.hang(0));
            notNow(all, "hang(11)", shop -> shop.hang(11));
        }
        for (int minutes : new int[] {0, -1, 201, Integer.MIN_VALUE, Integer.MAX_VALUE}) {
            badArgument(all, "pass(" + minutes + ")", shop -> shop.pass(minutes));
        }
        int tooMany = LAST_TIME - scene.time + 1;
        if (tooMany <= 200) {
            notNow(all, "pass(" + tooMany + ")", shop -> shop.pass(tooMany));
            notNow(all, "pass(200)", shop -> shop.pass(200));
        }
        return all;
    }

    private static void addWithoutWare(List<Refused> all, int ware) {
        noSuch(all, "setPrice(" + ware + ", 5)", shop -> shop.setPrice(ware, 5));
        noSuch(all, "setPrice(" + ware + ", -1)", shop -> shop.setPrice(ware, -1));
        noSuch(all, "setPrice(" + ware + ", 10000)", shop -> shop.setPrice(ware, 10000));
        noSuch(all, "price(" + ware + ")", shop -> shop.price(ware));
        noSuch(all, "hang(" + ware + ")", shop -> shop.hang(ware));
        noSuch(all, "asked(" + ware + ")", shop -> shop.asked(ware));
        noSuch(all, "leastEver(" + ware + ")", shop -> shop.leastEver(ware));
    }

    private static void addWithoutLabel(List<Refused> all, int label) {
        for (int ware : new int[] {0, 11, -1, 12}) {
            noSuch(all, "carry(" + label + ", " + ware + ")", shop -> shop.carry(label, ware));
        }
        for (int count : new int[] {0, 20, -1, 21}) {
            noSuch(all, "loseSendings(" + label + ", " + count + ")", shop -> shop.loseSendings(label, count));
            noSuch(all, "loseAnswers(" + label + ", " + count + ")", shop -> shop.loseAnswers(label, count));
        }
        noSuch(all, "charge(" + label + ")", shop -> shop.charge(label));
        noSuch(all, "order(" + label + ")", shop -> shop.order(label));
        noSuch(all, "shown(" + label + ")", shop -> shop.shown(label));
        noSuch(all, "ghosts(" + label + ")", shop -> shop.ghosts(label));
        noSuch(all, "battery(" + label + ")", shop -> shop.battery(label));
    }

    private static void addOfLabel(List<Refused> all, int label, int itsWare) {
        notNow(all, "carry(" + label + ", " + itsWare + ")", shop -> shop.carry(label, itsWare));
        for (int ware : new int[] {-1, WARES, Integer.MIN_VALUE, Integer.MAX_VALUE}) {
            noSuch(all, "carry(" + label + ", " + ware + ")", shop -> shop.carry(label, ware));
        }
        for (int count : new int[] {-1, 21, Integer.MIN_VALUE, Integer.MAX_VALUE}) {
            badArgument(all, "loseSendings(" + label + ", " + count + ")", shop -> shop.loseSendings(label, count));
            badArgument(all, "loseAnswers(" + label + ", " + count + ")", shop -> shop.loseAnswers(label, count));
        }
    }

    private static void noSuch(List<Refused> all, String call, Play play) {
        all.add(new Refused(call, IndexOutOfBoundsException.class, play));
    }

    private static void badArgument(List<Refused> all, String call, Play play) {
        all.add(new Refused(call, IllegalArgumentException.class, play));
    }

    private static void notNow(List<Refused> all, String call, Play play) {
        all.add(new Refused(call, IllegalStateException.class, play));
    }

    // ---- what is held against what

    private static void refusedCallsChangeNothing(Scene scene) {
        GlassLabels untouched = scene.shop();
        Check.due(scene.name + ": its time", untouched.time(), scene.time);
        String before = answers(untouched, scene.hung);
        String later = later(untouched, scene);
        for (Refused refused : refusedIn(scene)) {
            String what = scene.name + ": " + refused.call;
            GlassLabels shop = scene.shop();
            Check.due(what + ", before it", answers(shop, scene.hung), before);
            Check.thrown(what, () -> refused.play.on(shop), refused.due);
            Check.due(what + ", after it", answers(shop, scene.hung), before);
            Check.due(what + ", later", later(shop, scene), later);
        }
    }

    private static String answers(GlassLabels shop, int hung) {
        StringBuilder told = new StringBuilder("time ").append(shop.time());
        told.append(", orders ").append(shop.orders()).append(", next ").append(shop.nextToSend());
        told.append(", lies ").append(shop.lies());
        for (int ware = 0; ware < WARES; ware++) {
            told.append("; ware ").append(ware).append(": ").append(shop.price(ware));
            told.append(' ').append(shop.asked(ware)).append(' ').append(shop.leastEver(ware));
        }
        for (int label = 0; label < hung; label++) {
            told.append("; label ").append(label).append(": ").append(shop.order(label));
            told.append(' ').append(shop.shown(label)).append(' ').append(shop.ghosts(label));
            told.append(' ').append(shop.battery(label));
        }
        return told.toString();
    }

    /** What cannot be asked for at once shows later: when orders are due, what is lost yet, which number is next. */
    private static String later(GlassLabels shop, Scene scene) {
        StringBuilder told = new StringBuilder();
        pass(shop, told, 1);
        pass(shop, told, 4);
        for (int label = 0; label < scene.hung; label++) {
            told.append(" lost ").append(shop.loseSendings(label, 0)).append(' ').append(shop.loseAnswers(label, 0));
        }
        int hung = scene.hung;
        if (hung < LABELS) {
            told.append(" hung ").append(shop.hang(11));
            hung++;
        }
        for (int ware = 0; ware < WARES; ware++) {
            told.append(" made ").append(shop.setPrice(ware, 8 * ware + 300));
        }
        told.append(" order ").append(shop.order(hung - 1));
        pass(shop, told, 1);
        pass(shop, told, 52);
        return told.append(answers(shop, hung)).toString();
    }

    private static void pass(GlassLabels shop, StringBuilder told, int minutes) {
        if (shop.time() + minutes <= LAST_TIME) {
            told.append(" sent ").append(shop.pass(minutes)).append(" next ").append(shop.nextToSend());
            told.append(" asked ").append(shop.asked(0)).append(' ').append(shop.asked(3));
        }
    }
}
