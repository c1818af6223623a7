import java.util.ArrayList;
import java.util.List;
import java.util.Random;

/**
 * The document's first sentence: messages "may come in any order, wait for what they need, and come to
 * the same place everywhere". Small random runs of sites 0 to 3, told to site 4 in every order there is.
 */
public final class AnyOrderTest extends Checks {
    private static final int RUNS = 60;
    private static final int MESSAGES = 6;
    private static final int READER = 4;
    private static final int MOST_FAULTS = 20;

    public static void main(String[] args) {
        List<int[]> orders = new ArrayList<>();
        addOrders(new int[MESSAGES], 0, orders);
        due("orders of " + MESSAGES, orders.size(), 720);
        for (int text = 0; text < 2; text++) {
            for (int run = 0; run < RUNS && faults() < MOST_FAULTS; run++) {
                sentence("text " + text + ", run " + run);
                tellInEveryOrder(text, run, orders);
            }
        }
        end();
    }

    /** Every order of the numbers 0 .. MESSAGES - 1, of which the first so many are set. */
    private static void addOrders(int[] order, int set, List<int[]> orders) {
        if (set == order.length) {
            orders.add(order.clone());
            return;
        }
        for (int k = 0; k < order.length; k++) {
            boolean isNew = true;
            for (int p = 0; p < set; p++) {
                isNew = isNew && order[p] != k;
            }
            if (isNew) {
                order[set] = k;
                addOrders(order, set + 1, orders);
            }
        }
    }

    /** The same messages for the same seed, each made by a site that knows some of those ahead of it. */
    private static Page written(int text, int seed) {
        Random random = new Random(seed);
        Page page = new Page();
        while (page.look(text, 0, 0) < MESSAGES) {
            int site = random.nextInt(READER);
            int made = page.look(text, site, 0);
            for (int told = made == 0 ? 0 : random.nextInt(4); told > 0; told--) {
                page.tell(text, site, random.nextInt(made));
            }
            int seen = page.look(text, site, 3);
            if (seen > 0 && random.nextInt(4) == 0) {
                page.erase(text, site, random.nextInt(seen));
            } else {
                page.insert(text, site, random.nextInt(seen + 1), 'a' + made);
            }
        }
        return page;
    }

    private static void tellInEveryOrder(int text, int seed, List<int[]> orders) {
        String want = "";
        for (int[] order : orders) {
            Page page = written(text, seed);
            int done = 0;
            StringBuilder name = new StringBuilder("told ");
            for (int k : order) {
                done += page.tell(text, READER, k);
                name.append(k);
            }
            String got = page.sequence(text, READER);
            if (want.isEmpty()) {
                want = got;
            }
            due("DONE, " + name, done, MESSAGES);
            due("WAITING, " + name, page.look(text, READER, 5), 0);
            due("the SEQUENCE, " + name, got, want);
            int known = page.look(text, 0, 4);
            due("a writer is told the rest, " + name, page.share(text, READER, 0, true), MESSAGES - known);
            due("the writer has the same, " + name, page.same(text, 0, READER), true);
        }
    }
}
