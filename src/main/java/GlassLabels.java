import java.util.Arrays;

/** A shop with price labels that are small screens, ordered by radio, and a till that knows what they told. */
public final class GlassLabels {
    public static final int NONE = -1;

    private static final int WARES = 12;
    private static final int MOST_LABELS = 12;
    private static final int HIGHEST_PRICE = 9999;
    private static final int MOST_LOST = 20;
    private static final int MOST_MINUTES = 200;
    private static final int LAST_TIME = 10000;
    private static final int SLOTS_A_MINUTE = 2;

    private final int[] prices = new int[WARES];
    private final Label[] labels = new Label[MOST_LABELS];
    private final Memory memory = new Memory();
    private int hung = 0;
    private int now = 0;
    private int lastOrder = 0;

    public GlassLabels() {
        // All labels are made here, so that none of the row is ever null; the first 'hung' ones hang.
        for (int i = 0; i < MOST_LABELS; i++) {
            labels[i] = new Label();
        }
    }

    // ---- prices and labels

    public int setPrice(int ware, int price) throws IndexOutOfBoundsException, IllegalArgumentException {
        needWare(ware);
        needWithin(price, 0, HIGHEST_PRICE);
        if (prices[ware] == price) {
            return 0;
        }
        prices[ware] = price;
        int made = 0;
        for (int i = 0; i < hung; i++) {
            if (labels[i].ware == ware) {
                giveOrder(labels[i]);
                made++;
            }
        }
        return made;
    }

    public int price(int ware) throws IndexOutOfBoundsException {
        needWare(ware);
        return prices[ware];
    }

    public int hang(int ware) throws IndexOutOfBoundsException, IllegalStateException {
        needWare(ware);
        if (hung >= MOST_LABELS) {
            throw new IllegalStateException("no room for another label");
        }
        labels[hung].ware = ware;
        labels[hung].shown = prices[ware];
        hung++;
        return hung - 1;
    }

    public boolean carry(int label, int ware) throws IndexOutOfBoundsException, IllegalStateException {
        Label carried = labelOf(label);
        needWare(ware);
        if (carried.ware == ware) {
            throw new IllegalStateException("the label is for this ware");
        }
        carried.ware = ware;
        carried.order = NONE;
        if (carried.shown == prices[ware]) {
            return false;
        }
        giveOrder(carried);
        return true;
    }

    public int charge(int label) throws IndexOutOfBoundsException {
        Label charged = labelOf(label);
        int old = charged.battery;
        charged.battery = Label.FULL_BATTERY;
        return old;
    }

    // ---- radio

    public int loseSendings(int label, int count) throws IndexOutOfBoundsException, IllegalArgumentException {
        Label losing = labelOf(label);
        needWithin(count, 0, MOST_LOST);
        int old = losing.sendingsToLose;
        losing.sendingsToLose = count;
        return old;
    }

    public int loseAnswers(int label, int count) throws IndexOutOfBoundsException, IllegalArgumentException {
        Label losing = labelOf(label);
        needWithin(count, 0, MOST_LOST);
        int old = losing.answersToLose;
        losing.answersToLose = count;
        return old;
    }

    public int pass(int minutes) throws IllegalArgumentException, IllegalStateException {
        needWithin(minutes, 1, MOST_MINUTES);
        if (now + minutes > LAST_TIME) {
            throw new IllegalStateException("the time would be too late");
        }
        int sent = 0;
        for (int minute = 0; minute < minutes; minute++) {
            sent += passOneMinute();
        }
        return sent;
    }

    public int time() {
        return now;
    }

    public int order(int label) throws IndexOutOfBoundsException {
        return labelOf(label).order;
    }

    public int orders() {
        int held = 0;
        for (int i = 0; i < hung; i++) {
            if (labels[i].order != NONE) {
                held++;
            }
        }
        return held;
    }

    public int nextToSend() {
        int next = NONE;
        for (int i = 0; i < hung; i++) {
            if (labels[i].isDue(now) && (next == NONE || labels[i].isSentBefore(labels[next]))) {
                next = i;
            }
        }
        return next;
    }

    // ---- what is shown

    public int shown(int label) throws IndexOutOfBoundsException {
        return labelOf(label).shown;
    }

    public int ghosts(int label) throws IndexOutOfBoundsException {
        return labelOf(label).ghosts;
    }

    public int battery(int label) throws IndexOutOfBoundsException {
        return labelOf(label).battery;
    }

    public int lies() {
        int liars = 0;
        for (int i = 0; i < hung; i++) {
            if (labels[i].shown < prices[labels[i].ware]) {
                liars |= 1 << i;
            }
        }
        return liars;
    }

    public int asked(int ware) throws IndexOutOfBoundsException {
        needWare(ware);
        int told = Math.min(leastShownNow(ware), memory.leastOfLastHour(ware));
        return Math.min(prices[ware], told);
    }

    public int leastEver(int ware) throws IndexOutOfBoundsException {
        needWare(ware);
        int least = Math.min(leastShownNow(ware), memory.leastOfAllTime(ware));
        return least == Memory.NO_PRICE ? NONE : least;
    }

    // ---- what the calls share

    private static void needWare(int ware) {
        if (ware < 0 || ware >= WARES) {
            throw new IndexOutOfBoundsException("no such ware");
        }
    }

    private static void needWithin(int number, int least, int most) {
        if (number < least || number > most) {
            throw new IllegalArgumentException("out of range");
        }
    }

    private Label labelOf(int label) {
        if (label < 0 || label >= hung) {
            throw new IndexOutOfBoundsException("no such label");
        }
        return labels[label];
    }

    private void giveOrder(Label label) {
        lastOrder++;
        label.order = lastOrder;
        label.dueSince = now;
    }

    private int passOneMinute() {
        now++;
        int sent = 0;
        for (int slot = 0; slot < SLOTS_A_MINUTE; slot++) {
            int next = nextToSend();
            if (next != NONE) {
                labels[next].getSending(prices[labels[next].ware], now);
                sent++;
            }
        }
        endMinute();
        return sent;
    }

    private void endMinute() {
        memory.openMinute(now);
        for (int i = 0; i < hung; i++) {
            labels[i].listen();
            memory.note(now, labels[i].ware, labels[i].shown);
        }
    }

    private int leastShownNow(int ware) {
        int least = Memory.NO_PRICE;
        for (int i = 0; i < hung; i++) {
            if (labels[i].ware == ware) {
                least = Math.min(least, labels[i].shown);
            }
        }
        return least;
    }

    /**
     * A label, with the order that the radio has for it. The order holds no price of its own: a new price makes
     * a new order, and so does a new ware, so it is always the price of the label's ware that is sent.
     */
    private static final class Label {
        static final int FULL_BATTERY = 1000;
        private static final int LEAST_TO_WORK = 20;
        private static final int COST_IN_PART = 10;
        private static final int COST_WHOLE = 20;
        private static final int MOST_GHOSTS = 9;
        private static final int DIGITS = 4;
        private static final int MINUTES_TO_RESEND = 5;

        int ware = 0;
        int shown = 0;
        int ghosts = 0;
        int battery = FULL_BATTERY;
        int order = NONE;
        int dueSince = 0;
        int sendingsToLose = 0;
        int answersToLose = 0;

        boolean isDue(int now) {
            return order != NONE && dueSince <= now;
        }

        boolean isSentBefore(Label other) {
            return dueSince < other.dueSince || (dueSince == other.dueSince && order < other.order);
        }

        void getSending(int price, int now) {
            dueSince = now + MINUTES_TO_RESEND;
            if (sendingsToLose > 0) {
                sendingsToLose--;
            } else if (battery >= LEAST_TO_WORK) {
                redraw(price);
                answer();
            }
        }

        void listen() {
            if (battery > 0) {
                battery--;
            }
        }

        private void redraw(int price) {
            if (price == shown) {
                return;
            }
            int withNewGhosts = ghosts + changedDigits(shown, price);
            if (withNewGhosts > MOST_GHOSTS) {
                battery -= COST_WHOLE;
                ghosts = 0;
            } else {
                battery -= COST_IN_PART;
                ghosts = withNewGhosts;
            }
            shown = price;
        }

        private void answer() {
            if (answersToLose > 0) {
                answersToLose--;
            } else {
                order = NONE;
            }
        }

        private static int changedDigits(int before, int after) {
            int changed = 0;
            int unit = 1;
            for (int digit = 0; digit < DIGITS; digit++) {
                if (before / unit % 10 != after / unit % 10) {
                    changed++;
                }
                unit *= 10;
            }
            return changed;
        }
    }

    /** What labels have shown for each ware at the ends of minutes. */
    private static final class Memory {
        /** Above every price, so that the least of it and a price is the price. */
        static final int NO_PRICE = HIGHEST_PRICE + 1;
        private static final int HOUR = 60;

        // The minute that made the time t stands in row t % HOUR: opening a minute drops the one an hour before
        // it, so that the rows always hold just the last hour.
        private final int[][] leastAtEnd = new int[HOUR][WARES];
        private final int[] leastEnded = new int[WARES];

        Memory() {
            for (int row = 0; row < HOUR; row++) {
                Arrays.fill(leastAtEnd[row], NO_PRICE);
            }
            Arrays.fill(leastEnded, NO_PRICE);
        }

        void openMinute(int time) {
            Arrays.fill(leastAtEnd[time % HOUR], NO_PRICE);
        }

        void note(int time, int ware, int shown) {
            int[] row = leastAtEnd[time % HOUR];
            row[ware] = Math.min(row[ware], shown);
            leastEnded[ware] = Math.min(leastEnded[ware], shown);
        }

        int leastOfLastHour(int ware) {
            int least = NO_PRICE;
            for (int row = 0; row < HOUR; row++) {
                least = Math.min(least, leastAtEnd[row][ware]);
            }
            return least;
        }

        int leastOfAllTime(int ware) {
            return leastEnded[ware];
        }
    }
}
