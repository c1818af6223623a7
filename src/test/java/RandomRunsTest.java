import java.util.ArrayList;
import java.util.Collections;
import java.util.HashMap;
import java.util.HashSet;
import java.util.List;
import java.util.Map;
import java.util.Random;
import java.util.Set;
import java.util.TreeMap;

/**
 * Random runs of 512 calls, as many as the document speaks for: SharedPage against a slow model that
 * follows the document word by word.
 */
public final class RandomRunsTest extends Checks {
    private static final int LONG_RUNS = 3000;
    private static final int SHORT_RUNS = 2000;
    private static final int MOST_FAULTS = 20;
    private static final int[] STRANGE = {-1, -2, 2, 5, 6, 12, 13, 60, 100, 160, 1000, Integer.MAX_VALUE,
        Integer.MIN_VALUE};
    private static final int[] NO_LETTER = {31, 127, -1, 97 + 256, 0, Integer.MAX_VALUE, Integer.MIN_VALUE};

    private final Random random;
    private final Page page = new Page();
    private final PlainPage plain = new PlainPage();

    private RandomRunsTest(long seed) {
        random = new Random(seed);
    }

    public static void main(String[] args) {
        for (int run = 0; run < LONG_RUNS && faults() < MOST_FAULTS; run++) {
            sentence("long run " + run);
            new RandomRunsTest(run).playLong();
        }
        for (int run = 0; run < SHORT_RUNS && faults() < MOST_FAULTS; run++) {
            sentence("short run " + run);
            new RandomRunsTest(1_000_000L + run).playShort();
        }
        end();
    }

    /** Many letters: calls that change something among calls that ask, then only such as ask. */
    private void playLong() {
        int inserts = 1 + random.nextInt(5);
        int erases = 2 + random.nextInt(10);
        int texts = 1 + random.nextInt(2);
        int firstText = random.nextInt(2);
        int asking = random.nextInt(300);
        int asksOfTen = random.nextInt(6);
        while (page.remaining() > 0 && faults() < MOST_FAULTS) {
            int text = odd((firstText + random.nextInt(texts)) % 2);
            if (page.remaining() < asking || random.nextInt(10) < asksOfTen) {
                ask(text, odd(random.nextInt(5)));
            } else {
                change(text, inserts, erases);
            }
        }
    }

    /** At most 13 letters, so that nearly each copy has FREE orders to be counted. */
    private void playShort() {
        int text = random.nextInt(2);
        int letters = 1 + random.nextInt(13);
        int tells = random.nextInt(5);
        for (int made = 0; made < letters; made++) {
            int site = random.nextInt(5);
            for (int t = 0; t < tells; t++) {
                tell(text, random.nextInt(5), random.nextInt(made + 1));
            }
            insert(text, site, random.nextInt(plain.seen(text, site).size() + 1), 'a' + made);
            if (random.nextInt(3) == 0) {
                erase(text, site, random.nextInt(2));
            }
            askForOrders(text, random.nextInt(5));
        }
        for (int site = 1; site < 5; site++) {
            share(text, site, 0, random.nextBoolean());
            askForOrders(text, 0);
        }
        while (page.remaining() > 2 && faults() < MOST_FAULTS) {
            ask(text, random.nextInt(5));
        }
    }

    private int odd(int usual) {
        return random.nextInt(60) == 0 ? STRANGE[random.nextInt(STRANGE.length)] : usual;
    }

    /** A number from -1 to one beyond the last of so many. */
    private int around(int many) {
        return odd(random.nextInt(8) == 0 ? random.nextInt(many + 2) - 1 : random.nextInt(many + 1));
    }

    /** One call of twenty kinds: so many of them INSERT, so many ERASE, the others tell. */
    private void change(int text, int inserts, int erases) {
        int site = odd(random.nextInt(5));
        int seen = plain.seen(text, site).size();
        int kind = random.nextInt(20);
        if (kind < inserts) {
            int letter = random.nextInt(40) == 0 ? NO_LETTER[random.nextInt(NO_LETTER.length)] : 32 + random.nextInt(95);
            insert(text, site, around(seen), letter);
        } else if (kind < inserts + erases) {
            erase(text, site, around(seen));
        } else if (kind < 18) {
            tell(text, site, around(plain.messages(text)));
        } else {
            share(text, odd(random.nextInt(5)), site, random.nextBoolean());
        }
        if (page.remaining() > 0 && random.nextInt(3) == 0) {
            look(text, site, random.nextBoolean() ? 6 : random.nextInt(7));
        }
    }

    private void ask(int text, int site) {
        int other = odd(random.nextInt(5));
        int k = around(plain.messages(text));
        int i = around(Math.max(0, plain.look(text, site, 2)));
        switch (random.nextInt(10)) {
            case 0: look(text, site, around(7)); break;
            case 1: message(text, k, around(6)); break;
            case 2: state(text, site, k); break;
            case 3: character(text, site, i, around(5)); break;
            case 4: due("write(" + text + ", " + site + ")", page.write(text, site), plain.write(text, site)); break;
            case 5: out(around(plain.out.size())); break;
            case 6: same(text, site, other); break;
            case 7: shuffle(text, site, random.nextInt()); break;
            case 8: orders(text, site); break;
            default: number(text, site); break;
        }
    }

    private void askForOrders(int text, int site) {
        orders(text, site);
        number(text, site);
    }

    private void insert(int text, int site, int i, int letter) {
        due("insert(" + text + ", " + site + ", " + i + ", " + letter + ")",
            page.insert(text, site, i, letter), plain.insert(text, site, i, letter));
    }

    private void erase(int text, int site, int i) {
        due("erase(" + text + ", " + site + ", " + i + ")",
            page.erase(text, site, i), plain.erase(text, site, i));
    }

    private void tell(int text, int site, int k) {
        due("tell(" + text + ", " + site + ", " + k + ")", page.tell(text, site, k), plain.tell(text, site, k));
    }

    private void share(int text, int from, int to, boolean down) {
        due("share(" + text + ", " + from + ", " + to + ", " + down + ")",
            page.share(text, from, to, down), plain.share(text, from, to, down));
    }

    private void look(int text, int site, int what) {
        due("look(" + text + ", " + site + ", " + what + ")",
            page.look(text, site, what), plain.look(text, site, what));
    }

    private void message(int text, int k, int what) {
        due("message(" + text + ", " + k + ", " + what + ")",
            page.message(text, k, what), plain.message(text, k, what));
    }

    private void state(int text, int site, int k) {
        due("state(" + text + ", " + site + ", " + k + ")", page.state(text, site, k), plain.state(text, site, k));
    }

    private void character(int text, int site, int i, int what) {
        due("character(" + text + ", " + site + ", " + i + ", " + what + ")",
            page.character(text, site, i, what), plain.character(text, site, i, what));
    }

    private void out(int i) {
        due("out(" + i + ")", page.out(i), plain.out(i));
    }

    private void same(int text, int a, int b) {
        due("same(" + text + ", " + a + ", " + b + ")", page.same(text, a, b), plain.same(text, a, b));
    }

    private void shuffle(int text, int site, int seed) {
        due("shuffle(" + text + ", " + site + ", " + seed + ")",
            page.shuffle(text, site, seed), plain.shuffle(text, site, seed));
    }

    private void orders(int text, int site) {
        due("orders(" + text + ", " + site + ")", page.orders(text, site), plain.orders(text, site));
    }

    private void number(int text, int site) {
        due("number(" + text + ", " + site + ")", page.number(text, site), plain.number(text, site));
    }

    /** A CHARACTER; BEGIN and END are such, too. */
    private static final class Letter {
        final int site;
        final int mark;
        final int letter;
        final Letter left;
        final Letter right;

        Letter(int site, int mark, int letter, Letter left, Letter right) {
            this.site = site;
            this.mark = mark;
            this.letter = letter;
            this.left = left;
            this.right = right;
        }
    }

    private static final class Message {
        final boolean erase;
        final int site;
        final Letter letter;

        Message(boolean erase, int site, Letter letter) {
            this.erase = erase;
            this.site = site;
            this.letter = letter;
        }
    }

    /** A copy, its row from BEGIN to END. */
    private static final class PlainCopy {
        final PlainText text;
        final List<Letter> row = new ArrayList<>();
        final Set<Letter> erased = new HashSet<>();
        final Set<Integer> done = new HashSet<>();
        final TreeMap<Integer, Message> waiting = new TreeMap<>();
        int looks = 0;
        int latest = 0;
        boolean integrated = false;

        PlainCopy(PlainText text) {
            this.text = text;
            row.add(text.begin);
            row.add(text.end);
        }

        List<Letter> seen() {
            List<Letter> some = new ArrayList<>(row.subList(1, row.size() - 1));
            some.removeAll(erased);
            return some;
        }

        boolean ready(Message m) {
            return m.erase ? row.contains(m.letter) : row.contains(m.letter.left) && row.contains(m.letter.right);
        }

        void carryOut(int k, Message m) {
            done.add(k);
            if (m.erase) {
                erased.add(m.letter);
                return;
            }
            integrated = true;
            if (text.woot) {
                woot(m.letter, m.letter.left, m.letter.right);
            } else {
                yata(m.letter);
            }
        }

        int told(int k) {
            Message m = text.messages.get(k);
            if (done.contains(k) || waiting.containsKey(k)) {
                return 0;
            }
            if (!ready(m)) {
                waiting.put(k, m);
                return 0;
            }
            carryOut(k, m);
            int count = 1;
            Integer next = least();
            while (next != null) {
                carryOut(next, waiting.remove(next));
                count++;
                next = least();
            }
            return count;
        }

        Integer least() {
            for (Integer k : waiting.keySet()) {
                if (ready(waiting.get(k))) {
                    return k;
                }
            }
            return null;
        }

        void woot(Letter c, Letter l, Letter r) {
            int from = row.indexOf(l);
            int to = row.indexOf(r);
            if (from >= to) {
                throw new IllegalStateException("RIGHT is not behind LEFT");
            }
            List<Letter> between = row.subList(from + 1, to);
            if (between.isEmpty()) {
                row.add(to, c);
                return;
            }
            List<Letter> asked = new ArrayList<>();
            asked.add(l);
            for (Letter o : between) {
                looks++;
                if (row.indexOf(o.left) <= from && row.indexOf(o.right) >= to) {
                    asked.add(o);
                }
            }
            asked.add(r);
            int i = 1;
            while (asked.get(i) != r) {
                looks++;
                if (asked.get(i).mark >= c.mark) {
                    break;
                }
                i++;
            }
            woot(c, asked.get(i - 1), asked.get(i));
        }

        void yata(Letter c) {
            if (row.indexOf(c.left) >= row.indexOf(c.right)) {
                throw new IllegalStateException("RIGHT is not behind LEFT");
            }
            Letter place = c.left;
            Set<Letter> passed = new HashSet<>();
            Set<Letter> open = new HashSet<>();
            for (int p = row.indexOf(c.left) + 1; row.get(p) != c.right; p++) {
                Letter o = row.get(p);
                looks++;
                passed.add(o);
                open.add(o);
                if (o.left == c.left) {
                    if (o.site < c.site) {
                        place = o;
                        open.clear();
                    } else if (o.right == c.right) {
                        break;
                    }
                } else if (passed.contains(o.left)) {
                    if (!open.contains(o.left)) {
                        place = o;
                        open.clear();
                    }
                } else {
                    break;
                }
            }
            row.add(row.indexOf(place) + 1, c);
        }

        void endCall() {
            if (integrated) {
                latest = looks;
            }
            looks = 0;
            integrated = false;
        }
    }

    private static final class PlainText {
        final boolean woot;
        final Letter begin = new Letter(-1, -1, -1, null, null);
        final Letter end = new Letter(-1, 9999, -1, null, null);
        final List<Message> messages = new ArrayList<>();
        final List<PlainCopy> copies = new ArrayList<>();
        final int[] clocks = new int[5];
        int letters = 0;
        int erases = 0;

        PlainText(boolean woot) {
            this.woot = woot;
            for (int s = 0; s < 5; s++) {
                copies.add(new PlainCopy(this));
            }
        }
    }

    private static final class PlainPage {
        /** So many letters can be written down in every order. */
        static final int FEW = 6;
        final PlainText[] texts = {new PlainText(true), new PlainText(false)};
        List<Integer> out = new ArrayList<>();

        PlainCopy copy(int text, int site) {
            return text < 0 || text > 1 || site < 0 || site > 4 ? null : texts[text].copies.get(site);
        }

        int messages(int text) {
            return text < 0 || text > 1 ? 0 : texts[text].messages.size();
        }

        List<Letter> seen(int text, int site) {
            return copy(text, site) == null ? new ArrayList<>() : copy(text, site).seen();
        }

        int make(PlainCopy copy, Message m) {
            int k = copy.text.messages.size();
            copy.text.messages.add(m);
            copy.carryOut(k, m);
            copy.endCall();
            return k;
        }

        int insert(int text, int site, int i, int letter) {
            PlainCopy copy = copy(text, site);
            if (copy == null || letter < 32 || letter > 126 || copy.text.letters == 60) {
                return -1;
            }
            List<Letter> ends = new ArrayList<>(copy.seen());
            if (i < 0 || i > ends.size()) {
                return -1;
            }
            ends.add(0, copy.text.begin);
            ends.add(copy.text.end);
            Letter left = ends.get(i);
            Letter right = copy.text.woot ? ends.get(i + 1) : copy.row.get(copy.row.indexOf(left) + 1);
            int mark = 100 * site + copy.text.clocks[site]++;
            copy.text.letters++;
            return make(copy, new Message(false, site, new Letter(site, mark, letter, left, right)));
        }

        int erase(int text, int site, int i) {
            PlainCopy copy = copy(text, site);
            if (copy == null || i < 0 || i >= copy.seen().size() || copy.text.erases == 100) {
                return -1;
            }
            copy.text.erases++;
            return make(copy, new Message(true, site, copy.seen().get(i)));
        }

        int tell(int text, int site, int k) {
            PlainCopy copy = copy(text, site);
            if (copy == null || k < 0 || k >= copy.text.messages.size()) {
                return -1;
            }
            int count = copy.told(k);
            copy.endCall();
            return count;
        }

        int share(int text, int from, int to, boolean down) {
            PlainCopy source = copy(text, from);
            PlainCopy target = copy(text, to);
            if (source == null || target == null) {
                return -1;
            }
            List<Integer> numbers = new ArrayList<>(source.done);
            Collections.sort(numbers);
            if (down) {
                Collections.reverse(numbers);
            }
            int count = 0;
            for (int k : numbers) {
                count += target.told(k);
            }
            target.endCall();
            return count;
        }

        int look(int text, int site, int what) {
            PlainCopy copy = copy(text, site);
            if (copy == null || what < 0 || what > 6) {
                return -1;
            }
            int[] answers = {copy.text.messages.size(), copy.text.letters, copy.row.size() - 2,
                copy.seen().size(), copy.done.size(), copy.waiting.size(), copy.latest};
            return answers[what];
        }

        int message(int text, int k, int what) {
            if (k < 0 || k >= messages(text) || what < 0 || what > 5) {
                return -1;
            }
            Message m = texts[text].messages.get(k);
            int[] answers = {m.erase ? 1 : 0, m.site, m.letter.mark, m.letter.left.mark, m.letter.right.mark,
                m.letter.letter};
            return answers[what];
        }

        int state(int text, int site, int k) {
            PlainCopy copy = copy(text, site);
            if (copy == null || k < 0 || k >= messages(text)) {
                return -1;
            }
            return copy.done.contains(k) ? 2 : copy.waiting.containsKey(k) ? 1 : 0;
        }

        int character(int text, int site, int i, int what) {
            PlainCopy copy = copy(text, site);
            if (copy == null || i < 0 || i >= copy.row.size() - 2 || what < 0 || what > 4) {
                return -1;
            }
            Letter c = copy.row.get(i + 1);
            int[] answers = {c.mark, c.letter, copy.erased.contains(c) ? 0 : 1,
                copy.row.indexOf(c.left) - 1, copy.row.indexOf(c.right) - 1};
            return answers[what];
        }

        int write(int text, int site) {
            if (copy(text, site) == null) {
                return -1;
            }
            out = new ArrayList<>();
            for (Letter c : seen(text, site)) {
                out.add(c.letter);
            }
            return out.size();
        }

        int out(int i) {
            return i < 0 || i >= out.size() ? -1 : out.get(i);
        }

        boolean same(int text, int a, int b) {
            PlainCopy one = copy(text, a);
            PlainCopy other = copy(text, b);
            return one != null && other != null && one.row.equals(other.row) && one.erased.equals(other.erased);
        }

        boolean shuffle(int text, int site, int seed) {
            PlainCopy copy = copy(text, site);
            if (copy == null) {
                return false;
            }
            PlainCopy built = new PlainCopy(copy.text);
            List<Integer> left = new ArrayList<>(copy.done);
            Collections.sort(left);
            while (!left.isEmpty()) {
                seed = seed * 1103515245 + 12345;
                built.told(left.remove((seed >>> 16) % left.size()));
            }
            return built.row.equals(copy.row) && built.erased.equals(copy.erased) && built.waiting.isEmpty();
        }

        long orders(int text, int site) {
            PlainCopy copy = copy(text, site);
            if (copy == null || copy.row.size() - 2 > 12) {
                return -1;
            }
            List<Letter> all = copy.row.subList(1, copy.row.size() - 1);
            return all.size() <= FEW ? everyOrder(all).size() : behind(new HashSet<>(), all, new HashMap<>());
        }

        long number(int text, int site) {
            PlainCopy copy = copy(text, site);
            if (copy == null || copy.row.size() - 2 > 12) {
                return -1;
            }
            List<Letter> all = copy.row.subList(1, copy.row.size() - 1);
            if (all.size() <= FEW) {
                return everyOrder(all).indexOf(all);
            }
            Map<Set<Letter>, Long> known = new HashMap<>();
            long number = 0;
            for (int at = 0; at < all.size(); at++) {
                Set<Letter> ahead = new HashSet<>(all.subList(0, at));
                for (Letter c : all) {
                    if (c.mark < all.get(at).mark && mayFollow(ahead, c, all)) {
                        ahead.add(c);
                        number += behind(ahead, all, known);
                        ahead.remove(c);
                    }
                }
            }
            return number;
        }

        /** Every FREE order, written down one by one, the least first. */
        List<List<Letter>> everyOrder(List<Letter> all) {
            List<Letter> rest = new ArrayList<>(all);
            rest.sort((a, b) -> Integer.compare(a.mark, b.mark));
            List<List<Letter>> found = new ArrayList<>();
            extend(new ArrayList<>(), rest, found);
            return found;
        }

        void extend(List<Letter> order, List<Letter> rest, List<List<Letter>> found) {
            if (rest.isEmpty()) {
                if (isFree(order)) {
                    found.add(new ArrayList<>(order));
                }
                return;
            }
            for (int i = 0; i < rest.size(); i++) {
                Letter c = rest.remove(i);
                order.add(c);
                extend(order, rest, found);
                order.remove(order.size() - 1);
                rest.add(i, c);
            }
        }

        boolean isFree(List<Letter> order) {
            for (Letter c : order) {
                int at = order.indexOf(c);
                int left = order.indexOf(c.left);
                int right = order.indexOf(c.right);
                if (left > at || right >= 0 && right < at) {
                    return false;
                }
            }
            return true;
        }

        /** In how many ways all the others can come behind those that stand ahead. */
        long behind(Set<Letter> ahead, List<Letter> all, Map<Set<Letter>, Long> known) {
            if (ahead.size() == all.size()) {
                return 1;
            }
            Long found = known.get(ahead);
            if (found != null) {
                return found;
            }
            long count = 0;
            for (Letter c : all) {
                if (mayFollow(ahead, c, all)) {
                    ahead.add(c);
                    count += behind(ahead, all, known);
                    ahead.remove(c);
                }
            }
            known.put(new HashSet<>(ahead), count);
            return count;
        }

        /** Whether all that must stand ahead of one do: its LEFT, and those whose RIGHT it is. */
        boolean mayFollow(Set<Letter> ahead, Letter c, List<Letter> all) {
            if (ahead.contains(c) || all.contains(c.left) && !ahead.contains(c.left)) {
                return false;
            }
            for (Letter o : all) {
                if (o.right == c && !ahead.contains(o)) {
                    return false;
                }
            }
            return true;
        }
    }
}
