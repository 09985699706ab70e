import java.util.ArrayList;
import java.util.Comparator;
import java.util.List;
import java.util.Random;

/**
 * Long runs of calls, drawn by fixed seeds, on the class and on a slow model that writes down all that was ever
 * shown and holds the radio's orders in one list. After each call two questions are drawn and compared, at a run's
 * end all of them: nothing is promised of an object after its 512th call, so that not all can be asked each time.
 */
public final class ModelTest {
    private static final int RUNS = 3000;
    private static final int CALLS = 130;
    private static final int QUESTIONS = 2;
    private static final int SHOP_QUESTIONS = 4;
    private static final int LABEL_QUESTIONS = 4;
    private static final int WARE_QUESTIONS = 3;
    private static final int LABELS = 12;
    private static final int WARES = 12;

    private record Order(int number, int label, int price, int due) {
    }

    private record Sight(int time, int ware, int price) {
    }

    private static final class ModelLabel {
        int ware;
        String digits;
        int ghosts = 0;
        int battery = 1000;
        int sendingsToLose = 0;
        int answersToLose = 0;

        int shown() {
            return Integer.parseInt(digits);
        }
    }

    private static final class Model {
        final int[] prices = new int[12];
        final List<ModelLabel> labels = new ArrayList<>();
        final List<Order> orders = new ArrayList<>();
        final List<Sight> sights = new ArrayList<>();
        int time = 0;
        int made = 0;

        void newOrder(int label) {
            orders.removeIf(order -> order.label == label);
            made++;
            orders.add(new Order(made, label, prices[labels.get(label).ware], time));
        }

        int setPrice(int ware, int price) {
            int before = made;
            if (prices[ware] != price) {
                prices[ware] = price;
                for (int label = 0; label < labels.size(); label++) {
                    if (labels.get(label).ware == ware) {
                        newOrder(label);
                    }
                }
            }
            return made - before;
        }

        int hang(int ware) {
            ModelLabel label = new ModelLabel();
            label.ware = ware;
            label.digits = digits(prices[ware]);
            labels.add(label);
            return labels.size() - 1;
        }

        boolean carry(int label, int ware) {
            labels.get(label).ware = ware;
            orders.removeIf(order -> order.label == label);
            if (labels.get(label).shown() != prices[ware]) {
                newOrder(label);
                return true;
            }
            return false;
        }

        Order next() {
            return orders.stream().filter(order -> order.due <= time)
                .min(Comparator.comparingInt(Order::due).thenComparingInt(Order::number)).orElse(null);
        }

        int pass(int minutes) {
            int sent = 0;
            for (int minute = 0; minute < minutes; minute++) {
                time++;
                for (int slot = 0; slot < 2; slot++) {
                    Order order = next();
                    if (order != null) {
                        sent++;
                        orders.remove(order);
                        if (!isDone(order)) {
                            orders.add(new Order(order.number, order.label, order.price, time + 5));
                        }
                    }
                }
                for (ModelLabel label : labels) {
                    label.battery = Math.max(0, label.battery - 1);
                    sights.add(new Sight(time, label.ware, label.shown()));
                }
            }
            return sent;
        }

        boolean isDone(Order order) {
            ModelLabel label = labels.get(order.label);
            if (label.sendingsToLose > 0) {
                label.sendingsToLose--;
                return false;
            }
            if (label.battery < 20) {
                return false;
            }
            String wanted = digits(order.price);
            if (!wanted.equals(label.digits)) {
                for (int i = 0; i < 4; i++) {
                    label.ghosts += wanted.charAt(i) == label.digits.charAt(i) ? 0 : 1;
                }
                boolean whole = label.ghosts > 9;
                label.ghosts = whole ? 0 : label.ghosts;
                label.battery -= whole ? 20 : 10;
                label.digits = wanted;
            }
            if (label.answersToLose > 0) {
                label.answersToLose--;
                return false;
            }
            return true;
        }

        int least(int ware, int after, int most) {
            int least = most;
            for (Sight sight : sights) {
                if (sight.ware == ware && sight.time > after) {
                    least = Math.min(least, sight.price);
                }
            }
            for (ModelLabel label : labels) {
                if (label.ware == ware) {
                    least = Math.min(least, label.shown());
                }
            }
            return least;
        }

        int order(int label) {
            return orders.stream().filter(order -> order.label == label).mapToInt(Order::number).findFirst().orElse(-1);
        }

        int lies() {
            int lies = 0;
            for (int label = 0; label < labels.size(); label++) {
                lies += labels.get(label).shown() < prices[labels.get(label).ware] ? 1 << label : 0;
            }
            return lies;
        }

        static String digits(int price) {
            return String.format("%04d", price);
        }
    }

    public static void main(String[] args) {
        for (int run = 0; run < RUNS; run++) {
            run(run);
        }
        Check.end();
    }

    private static void run(int run) {
        Random random = new Random(run);
        GlassLabels shop = new GlassLabels();
        Model model = new Model();
        // Few wares and few prices in some runs, so that labels meet and prices come back; many in others.
        int wares = 1 + random.nextInt(12);
        int prices = random.nextBoolean() ? 4 : 10000;
        int longest = random.nextBoolean() ? 8 : 200;
        // With two questions after each of the 130 calls, and all 88 at the end, that makes 478 calls of one object.
        for (int call = 0; call < CALLS; call++) {
            String at = "run " + run + ", call " + call + ": ";
            int ware = random.nextInt(wares);
            int label = random.nextInt(LABELS);
            int kind = random.nextInt(13);
            if (kind < 3) {
                setPrice(at, shop, model, ware, random.nextInt(prices));
            } else if (kind == 3) {
                hang(at, shop, model, ware);
            } else if (kind < 6) {
                carry(at, shop, model, label, ware);
            } else if (kind < 9) {
                pass(at, shop, model, 1 + random.nextInt(longest));
            } else if (kind == 9) {
                refused(at, shop, random);
            } else {
                tellLabel(at, shop, model, label, kind, random.nextInt(1 + random.nextInt(21)));
            }
            for (int question = 0; question < QUESTIONS; question++) {
                compareSome(at, shop, model, random);
            }
        }
        compareAll("run " + run + ", at its end: ", shop, model);
    }

    private static void setPrice(String at, GlassLabels shop, Model model, int ware, int price) {
        Check.due(at + "setPrice", shop.setPrice(ware, price), model.setPrice(ware, price));
    }

    private static void hang(String at, GlassLabels shop, Model model, int ware) {
        if (model.labels.size() < LABELS) {
            Check.due(at + "hang", shop.hang(ware), model.hang(ware));
        } else {
            Check.notNow(at + "hang", () -> shop.hang(ware));
        }
    }

    private static void pass(String at, GlassLabels shop, Model model, int minutes) {
        if (model.time + minutes <= 10000) {
            Check.due(at + "pass", shop.pass(minutes), model.pass(minutes));
        } else {
            Check.notNow(at + "pass", () -> shop.pass(minutes));
        }
    }

    private static void refused(String at, GlassLabels shop, Random random) {
        int beside = random.nextBoolean() ? -1 - random.nextInt(3) : 12 + random.nextInt(3);
        switch (random.nextInt(6)) {
            case 0 -> Check.noSuch(at + "setPrice " + beside, () -> shop.setPrice(beside, -1));
            case 1 -> Check.outOfRange(at + "setPrice", () -> shop.setPrice(0, beside < 0 ? beside : beside + 9988));
            case 2 -> Check.noSuch(at + "hang " + beside, () -> shop.hang(beside));
            case 3 -> Check.noSuch(at + "carry " + beside, () -> shop.carry(beside, 0));
            case 4 -> Check.noSuch(at + "loseSendings " + beside, () -> shop.loseSendings(beside, 21));
            default -> Check.outOfRange(at + "pass", () -> shop.pass(beside < 0 ? beside + 1 : beside + 189));
        }
    }

    private static void carry(String at, GlassLabels shop, Model model, int label, int ware) {
        if (label >= model.labels.size()) {
            Check.noSuch(at + "carry", () -> shop.carry(label, ware));
        } else if (model.labels.get(label).ware == ware) {
            Check.notNow(at + "carry", () -> shop.carry(label, ware));
        } else {
            Check.due(at + "carry", shop.carry(label, ware), model.carry(label, ware));
        }
    }

    private static void tellLabel(String at, GlassLabels shop, Model model, int number, int kind, int count) {
        if (number >= model.labels.size()) {
            Check.noSuch(at + "a call of no label", () -> refusedOfLabel(shop, number, kind, count));
            return;
        }
        ModelLabel label = model.labels.get(number);
        if (kind == 10) {
            Check.due(at + "charge", shop.charge(number), label.battery);
            label.battery = 1000;
        } else if (kind == 11) {
            Check.due(at + "loseSendings", shop.loseSendings(number, count), label.sendingsToLose);
            label.sendingsToLose = count;
        } else {
            Check.due(at + "loseAnswers", shop.loseAnswers(number, count), label.answersToLose);
            label.answersToLose = count;
        }
    }

    private static int refusedOfLabel(GlassLabels shop, int number, int kind, int count) {
        if (kind == 10) {
            return shop.charge(number);
        }
        return kind == 11 ? shop.loseSendings(number, count) : shop.loseAnswers(number, count);
    }

    private static void compareSome(String at, GlassLabels shop, Model model, Random random) {
        int kind = random.nextInt(SHOP_QUESTIONS + LABEL_QUESTIONS + WARE_QUESTIONS);
        if (kind < SHOP_QUESTIONS) {
            compareShop(at, shop, model, kind);
        } else if (kind >= SHOP_QUESTIONS + LABEL_QUESTIONS) {
            compareWare(at, shop, model, random.nextInt(WARES), kind - SHOP_QUESTIONS - LABEL_QUESTIONS);
        } else if (model.labels.isEmpty()) {
            Check.noSuch(at + "shown", () -> shop.shown(0));
        } else {
            compareLabel(at, shop, model, random.nextInt(model.labels.size()), kind - SHOP_QUESTIONS);
        }
    }

    private static void compareAll(String at, GlassLabels shop, Model model) {
        for (int kind = 0; kind < SHOP_QUESTIONS; kind++) {
            compareShop(at, shop, model, kind);
        }
        for (int label = 0; label < model.labels.size(); label++) {
            for (int kind = 0; kind < LABEL_QUESTIONS; kind++) {
                compareLabel(at, shop, model, label, kind);
            }
        }
        for (int ware = 0; ware < WARES; ware++) {
            for (int kind = 0; kind < WARE_QUESTIONS; kind++) {
                compareWare(at, shop, model, ware, kind);
            }
        }
    }

    private static void compareShop(String at, GlassLabels shop, Model model, int kind) {
        switch (kind) {
            case 0 -> Check.due(at + "time", shop.time(), model.time);
            case 1 -> Check.due(at + "orders", shop.orders(), model.orders.size());
            case 2 -> Check.due(at + "lies", shop.lies(), model.lies());
            default -> {
                Order next = model.next();
                Check.due(at + "nextToSend", shop.nextToSend(), next == null ? -1 : next.label);
            }
        }
    }

    private static void compareLabel(String at, GlassLabels shop, Model model, int label, int kind) {
        ModelLabel due = model.labels.get(label);
        switch (kind) {
            case 0 -> Check.due(at + "order " + label, shop.order(label), model.order(label));
            case 1 -> Check.due(at + "shown " + label, shop.shown(label), due.shown());
            case 2 -> Check.due(at + "ghosts " + label, shop.ghosts(label), due.ghosts);
            default -> Check.due(at + "battery " + label, shop.battery(label), due.battery);
        }
    }

    private static void compareWare(String at, GlassLabels shop, Model model, int ware, int kind) {
        int price = model.prices[ware];
        switch (kind) {
            case 0 -> Check.due(at + "price " + ware, shop.price(ware), price);
            case 1 -> Check.due(at + "asked " + ware, shop.asked(ware), model.least(ware, model.time - 60, price));
            default -> {
                int least = model.least(ware, 0, Integer.MAX_VALUE);
                Check.due(at + "leastEver " + ware, shop.leastEver(ware), least == Integer.MAX_VALUE ? -1 : least);
            }
        }
    }
}
