import java.util.ArrayList;
import java.util.Comparator;
import java.util.List;
import java.util.Random;

/**
 * Long runs of calls, drawn by fixed seeds, on the class and on a slow model that writes down all that was ever
 * shown and holds the radio's orders in one list; all that can be asked is compared after each call.
 */
public final class ModelTest {
    private static final int RUNS = 400;
    private static final int CALLS = 150;

    private record Order(int number, int label, int price, int due) {
    }

    private record Sight(int time, int ware, int price) {
    }

    private static final class ModelLabel {
        int ware;
        String digits;
        int ghosts = 0;
        int battery = 1000;
        int sendingsToLose = 0;
        int answersToLose = 0;

        int shown() {
            return Integer.parseInt(digits);
        }
    }

    private static final class Model {
        final int[] prices = new int[12];
        final List<ModelLabel> labels = new ArrayList<>();
        final List<Order> orders = new ArrayList<>();
        final List<Sight> sights = new ArrayList<>();
        int time = 0;
        int made = 0;

        void newOrder(int label) {
            orders.removeIf(order -> order.label == label);
            made++;
            orders.add(new Order(made, label, prices[labels.get(label).ware], time));
        }

        int setPrice(int ware, int price) {
            int before = made;
            if (prices[ware] != price) {
                prices[ware] = price;
                for (int label = 0; label < labels.size(); label++) {
                    if (labels.get(label).ware == ware) {
                        newOrder(label);
                    }
                }
            }
            return made - before;
        }

        int hang(int ware) {
            ModelLabel label = new ModelLabel();
            label.ware = ware;
            label.digits = digits(prices[ware]);
            labels.add(label);
            return labels.size() - 1;
        }

        boolean carry(int label, int ware) {
            labels.get(label).ware = ware;
            orders.removeIf(order -> order.label == label);
            if (labels.get(label).shown() != prices[ware]) {
                newOrder(label);
                return true;
            }
            return false;
        }

        Order next() {
            return orders.stream().filter(order -> order.due <= time)
                .min(Comparator.comparingInt(Order::due).thenComparingInt(Order::number)).orElse(null);
        }

        int pass(int minutes) {
            int sent = 0;
            for (int minute = 0; minute < minutes; minute++) {
                time++;
                for (int slot = 0; slot < 2; slot++) {
                    Order order = next();
                    if (order != null) {
                        sent++;
                        orders.remove(order);
                        if (!isDone(order)) {
                            orders.add(new Order(order.number, order.label, order.price, time + 5));
                        }
                    }
                }
                for (ModelLabel label : labels) {
                    label.battery = Math.max(0, label.battery - 1);
                    sights.add(new Sight(time, label.ware, label.shown()));
                }
            }
            return sent;
        }

        boolean isDone(Order order) {
            ModelLabel label = labels.get(order.label);
            if (label.sendingsToLose > 0) {
                label.sendingsToLose--;
                return false;
            }
            if (label.battery < 20) {
                return false;
            }
            String wanted = digits(order.price);
            if (!wanted.equals(label.digits)) {
                for (int i = 0; i < 4; i++) {
                    label.ghosts += wanted.charAt(i) == label.digits.charAt(i) ? 0 : 1;
                }
                boolean whole = label.ghosts > 9;
                label.ghosts = whole ? 0 : label.ghosts;
                label.battery -= whole ? 20 : 10;
                label.digits = wanted;
            }
            if (label.answersToLose > 0) {
                label.answersToLose--;
                return false;
            }
            return true;
        }

        int least(int ware, int after, int most) {
            int least = most;
            for (Sight sight : sights) {
                if (sight.ware == ware && sight.time > after) {
                    least = Math.min(least, sight.price);
                }
            }
            for (ModelLabel label : labels) {
                if (label.ware == ware) {
                    least = Math.min(least, label.shown());
                }
            }
            return least;
        }

        static String digits(int price) {
            return String.format("%04d", price);
        }
    }

    public static void main(String[] args) {
        for (int run = 0; run < RUNS; run++) {
            run(run);
        }
        Check.end();
    }

    private static void run(int run) {
        Random random = new Random(run);
        GlassLabels shop = new GlassLabels();
        Model model = new Model();
        // Few wares and few prices in some runs, so that labels meet and prices come back; many in others.
        int wares = 1 + random.nextInt(12);
        int prices = random.nextBoolean() ? 4 : 10000;
        int longest = random.nextBoolean() ? 8 : 200;
        for (int call = 0; call < CALLS; call++) {
            String at = "run " + run + ", call " + call + ": ";
            int ware = random.nextInt(wares);
            int label = random.nextInt(12);
            boolean hangs = label < model.labels.size();
            int kind = random.nextInt(12);
            if (kind < 3) {
                int price = random.nextInt(prices);
                Check.due(at + "setPrice", shop.setPrice(ware, price), model.setPrice(ware, price));
            } else if (kind == 3) {
                if (model.labels.size() < 12) {
                    Check.due(at + "hang", shop.hang(ware), model.hang(ware));
                } else {
                    Check.notNow(at + "hang", () -> shop.hang(ware));
                }
            } else if (kind < 6) {
                carry(at, shop, model, label, ware);
            } else if (kind < 9) {
                int minutes = 1 + random.nextInt(longest);
                if (model.time + minutes <= 10000) {
                    Check.due(at + "pass", shop.pass(minutes), model.pass(minutes));
                } else {
                    Check.notNow(at + "pass", () -> shop.pass(minutes));
                }
            } else if (!hangs) {
                Check.noSuch(at + "charge", () -> shop.charge(label));
                Check.noSuch(at + "loseSendings", () -> shop.loseSendings(label, 0));
                Check.noSuch(at + "loseAnswers", () -> shop.loseAnswers(label, 0));
            } else {
                tellLabel(at, shop, model.labels.get(label), label, kind, random.nextInt(1 + random.nextInt(21)));
            }
            compare(at, shop, model);
        }
    }

    private static void carry(String at, GlassLabels shop, Model model, int label, int ware) {
        if (label >= model.labels.size()) {
            Check.noSuch(at + "carry", () -> shop.carry(label, ware));
        } else if (model.labels.get(label).ware == ware) {
            Check.notNow(at + "carry", () -> shop.carry(label, ware));
        } else {
            Check.due(at + "carry", shop.carry(label, ware), model.carry(label, ware));
        }
    }

    private static void tellLabel(String at, GlassLabels shop, ModelLabel label, int number, int kind, int count) {
        if (kind == 9) {
            Check.due(at + "charge", shop.charge(number), label.battery);
            label.battery = 1000;
        } else if (kind == 10) {
            Check.due(at + "loseSendings", shop.loseSendings(number, count), label.sendingsToLose);
            label.sendingsToLose = count;
        } else {
            Check.due(at + "loseAnswers", shop.loseAnswers(number, count), label.answersToLose);
            label.answersToLose = count;
        }
    }

    private static void compare(String at, GlassLabels shop, Model model) {
        Check.due(at + "time", shop.time(), model.time);
        Check.due(at + "orders", shop.orders(), model.orders.size());
        Order next = model.next();
        Check.due(at + "nextToSend", shop.nextToSend(), next == null ? -1 : next.label);
        int lies = 0;
        for (int l = 0; l < model.labels.size(); l++) {
            int label = l;
            ModelLabel due = model.labels.get(label);
            int order = model.orders.stream().filter(o -> o.label == label).mapToInt(Order::number).findFirst().orElse(-1);
            Check.due(at + "order " + label, shop.order(label), order);
            Check.due(at + "shown " + label, shop.shown(label), due.shown());
            Check.due(at + "ghosts " + label, shop.ghosts(label), due.ghosts);
            Check.due(at + "battery " + label, shop.battery(label), due.battery);
            lies += due.shown() < model.prices[due.ware] ? 1 << label : 0;
        }
        Check.due(at + "lies", shop.lies(), lies);
        for (int ware = 0; ware < 12; ware++) {
            Check.due(at + "price " + ware, shop.price(ware), model.prices[ware]);
            Check.due(at + "asked " + ware, shop.asked(ware), model.least(ware, model.time - 60, model.prices[ware]));
            int least = model.least(ware, 0, Integer.MAX_VALUE);
            Check.due(at + "leastEver " + ware, shop.leastEver(ware), least == Integer.MAX_VALUE ? -1 : least);
        }
    }
}
