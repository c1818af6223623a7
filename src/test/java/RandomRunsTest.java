import java.util.ArrayList;
import java.util.Collections;
import java.util.HashSet;
import java.util.List;
import java.util.Random;
import java.util.Set;
import java.util.TreeMap;

/**
 * Random runs of calls: SharedPage against a slow model that follows the document word by word. With
 * the questions between them the runs are longer than the 512 calls that the document speaks for;
 * the class counts no calls, so all of them must be right.
 */
public final class RandomRunsTest {
    private static final int RUNS = 1000;
    private static final int CALLS = 512;
    private static int wrong = 0;

    public static void main(String[] args) {
        for (int run = 0; run < RUNS && wrong < 20; run++) {
            play(run);
        }
        for (int run = 0; run < 300 && wrong < 20; run++) {
            playSmall(run);
        }
        System.out.println(wrong == 0 ? "all answers are as due" : wrong + " answers are not as due");
        if (wrong != 0) {
            System.exit(1);
        }
    }

    private static void due(int run, String call, long got, long want) {
        if (got != want) {
            wrong++;
            System.out.println("run " + run + ": " + call + " answered " + got + ", due is " + want);
        }
    }

    /** A long run: all kinds of calls, now and then with arguments that are out of bounds. */
    private static void play(int run) {
        Random random = new Random(run);
        SharedPage page = new SharedPage();
        PlainPage plain = new PlainPage();
        int heavy = random.nextInt(4);
        int texts = 1 + random.nextInt(2);
        int firstText = random.nextInt(2);
        for (int call = 0; call < CALLS && wrong < 20; call++) {
            int text = (firstText + random.nextInt(texts)) % 2;
            step(run, page, plain, random, odd(random, text), heavy);
        }
        compareAll(run, page, plain);
    }

    /** A short run of few letters, where every FREE order can be written down. */
    private static void playSmall(int run) {
        Random random = new Random(1_000_000L + run);
        SharedPage page = new SharedPage();
        PlainPage plain = new PlainPage();
        int text = random.nextInt(2);
        int letters = 1 + random.nextInt(7);
        for (int made = 0; made < letters; made++) {
            int site = random.nextInt(5);
            for (int t = random.nextInt(3); t > 0; t--) {
                tell(run, page, plain, text, random.nextInt(5), random.nextInt(made + 1));
            }
            insert(run, page, plain, text, site, random.nextInt(plain.seen(text, site).size() + 1), 'a' + made);
            if (random.nextInt(3) == 0) {
                erase(run, page, plain, text, site, random.nextInt(2));
            }
            for (int s = 0; s < 5; s++) {
                due(run, "orders(" + text + ", " + s + ")", page.orders(text, s), plain.orders(text, s));
                due(run, "number(" + text + ", " + s + ")", page.number(text, s), plain.number(text, s));
            }
        }
        for (int s = 1; s < 5; s++) {
            share(run, page, plain, text, s, 0, random.nextBoolean());
        }
        due(run, "orders(" + text + ", 0)", page.orders(text, 0), plain.orders(text, 0));
        due(run, "number(" + text + ", 0)", page.number(text, 0), plain.number(text, 0));
        compareAll(run, page, plain);
    }

    private static int odd(Random random, int usual) {
        int[] strange = {-1, -2, 2, 5, 6, 60, 100, 160, 1000, Integer.MAX_VALUE, Integer.MIN_VALUE};
        return random.nextInt(60) == 0 ? strange[random.nextInt(strange.length)] : usual;
    }

    private static void step(int run, SharedPage page, PlainPage plain, Random random, int text, int heavy) {
        int site = odd(random, random.nextInt(5));
        int other = odd(random, random.nextInt(5));
        int k = odd(random, random.nextInt(plain.messages(text) + 1));
        int what = odd(random, random.nextInt(8));
        int seen = plain.seen(text, site).size();
        int kind = random.nextInt(20);
        if (kind < 5 - heavy) {
            int[] letters = {31, 127, -1, 97 + 256, 0};
            int letter = random.nextInt(40) == 0 ? letters[random.nextInt(5)] : 32 + random.nextInt(95);
            insert(run, page, plain, text, site, odd(random, random.nextInt(seen + 1)), letter);
        } else if (kind < 7) {
            erase(run, page, plain, text, site, odd(random, random.nextInt(seen + 1)));
        } else if (kind < 14) {
            tell(run, page, plain, text, site, k);
        } else if (kind < 15) {
            share(run, page, plain, text, site, other, random.nextBoolean());
        } else {
            ask(run, page, plain, random, new int[] {text, site, other, k, what});
        }
    }

    private static void ask(int run, SharedPage page, PlainPage plain, Random random, int[] of) {
        int text = of[0];
        int site = of[1];
        int what = of[4];
        due(run, "look(" + text + ", " + site + ", " + what + ")",
            page.look(text, site, what), plain.look(text, site, what));
        due(run, "message(" + text + ", " + of[3] + ", " + what + ")",
            page.message(text, of[3], what), plain.message(text, of[3], what));
        due(run, "state(" + text + ", " + site + ", " + of[3] + ")",
            page.state(text, site, of[3]), plain.state(text, site, of[3]));
        due(run, "write(" + text + ", " + site + ")", page.write(text, site), plain.write(text, site));
        int i = odd(random, random.nextInt(30));
        due(run, "out(" + i + ")", page.out(i), plain.out(i));
        due(run, "character(" + text + ", " + site + ", " + i + ", " + what + ")",
            page.character(text, site, i, what), plain.character(text, site, i, what));
        due(run, "same(" + text + ", " + site + ", " + of[2] + ")",
            page.same(text, site, of[2]) ? 1 : 0, plain.same(text, site, of[2]) ? 1 : 0);
        if (plain.look(text, site, 2) < 0 || plain.look(text, site, 2) > 12) {
            due(run, "orders(" + text + ", " + site + ")", page.orders(text, site), -1);
            due(run, "number(" + text + ", " + site + ")", page.number(text, site), -1);
        }
        int seed = random.nextInt();
        due(run, "shuffle(" + text + ", " + site + ", " + seed + ")",
            page.shuffle(text, site, seed) ? 1 : 0, plain.shuffle(text, site, seed) ? 1 : 0);
    }

    private static void insert(int run, SharedPage page, PlainPage plain, int text, int site, int i, int letter) {
        due(run, "insert(" + text + ", " + site + ", " + i + ", " + letter + ")",
            page.insert(text, site, i, letter), plain.insert(text, site, i, letter));
        compareLooks(run, page, plain, text, site);
    }

    private static void erase(int run, SharedPage page, PlainPage plain, int text, int site, int i) {
        due(run, "erase(" + text + ", " + site + ", " + i + ")",
            page.erase(text, site, i), plain.erase(text, site, i));
        compareLooks(run, page, plain, text, site);
    }

    private static void tell(int run, SharedPage page, PlainPage plain, int text, int site, int k) {
        due(run, "tell(" + text + ", " + site + ", " + k + ")",
            page.tell(text, site, k), plain.tell(text, site, k));
        compareLooks(run, page, plain, text, site);
    }

    private static void share(int run, SharedPage page, PlainPage plain, int text, int from, int to, boolean down) {
        due(run, "share(" + text + ", " + from + ", " + to + ", " + down + ")",
            page.share(text, from, to, down), plain.share(text, from, to, down));
        compareLooks(run, page, plain, text, to);
    }

    private static void compareLooks(int run, SharedPage page, PlainPage plain, int text, int site) {
        for (int what = 0; what <= 6; what++) {
            due(run, "look(" + text + ", " + site + ", " + what + ")",
                page.look(text, site, what), plain.look(text, site, what));
        }
    }

    private static void compareAll(int run, SharedPage page, PlainPage plain) {
        for (int text = 0; text < 2; text++) {
            for (int k = 0; k <= plain.messages(text); k++) {
                for (int what = -1; what <= 6; what++) {
                    due(run, "message(" + text + ", " + k + ", " + what + ")",
                        page.message(text, k, what), plain.message(text, k, what));
                }
            }
            for (int site = 0; site < 5; site++) {
                compareCopy(run, page, plain, text, site);
            }
        }
    }

    private static void compareCopy(int run, SharedPage page, PlainPage plain, int text, int site) {
        compareLooks(run, page, plain, text, site);
        for (int k = 0; k <= plain.messages(text); k++) {
            due(run, "state(" + text + ", " + site + ", " + k + ")",
                page.state(text, site, k), plain.state(text, site, k));
        }
        for (int i = -1; i <= plain.look(text, site, 2); i++) {
            for (int what = -1; what <= 5; what++) {
                due(run, "character(" + text + ", " + site + ", " + i + ", " + what + ")",
                    page.character(text, site, i, what), plain.character(text, site, i, what));
            }
        }
        due(run, "write(" + text + ", " + site + ")", page.write(text, site), plain.write(text, site));
        for (int i = -1; i <= 60; i++) {
            due(run, "out(" + i + ")", page.out(i), plain.out(i));
        }
        for (int b = 0; b < 5; b++) {
            due(run, "same(" + text + ", " + site + ", " + b + ")",
                page.same(text, site, b) ? 1 : 0, plain.same(text, site, b) ? 1 : 0);
        }
        for (int seed = 0; seed < 3; seed++) {
            due(run, "shuffle(" + text + ", " + site + ", " + seed + ")",
                page.shuffle(text, site, seed) ? 1 : 0, plain.shuffle(text, site, seed) ? 1 : 0);
        }
    }

    /** A CHARACTER; BEGIN and END are such, too. */
    private static final class Letter {
        final int site;
        final int mark;
        final int letter;
        final Letter left;
        final Letter right;

        Letter(int site, int mark, int letter, Letter left, Letter right) {
            this.site = site;
            this.mark = mark;
            this.letter = letter;
            this.left = left;
            this.right = right;
        }
    }

    private static final class Message {
        final boolean erase;
        final int site;
        final Letter letter;

        Message(boolean erase, int site, Letter letter) {
            this.erase = erase;
            this.site = site;
            this.letter = letter;
        }
    }

    /** A copy, its row from BEGIN to END. */
    private static final class PlainCopy {
        final PlainText text;
        final List<Letter> row = new ArrayList<>();
        final Set<Letter> erased = new HashSet<>();
        final Set<Integer> done = new HashSet<>();
        final TreeMap<Integer, Message> waiting = new TreeMap<>();
        int looks = 0;
        int latest = 0;
        boolean integrated = false;

        PlainCopy(PlainText text) {
            this.text = text;
            row.add(text.begin);
            row.add(text.end);
        }

        List<Letter> seen() {
            List<Letter> some = new ArrayList<>(row.subList(1, row.size() - 1));
            some.removeAll(erased);
            return some;
        }

        boolean ready(Message m) {
            return m.erase ? row.contains(m.letter) : row.contains(m.letter.left) && row.contains(m.letter.right);
        }

        void carryOut(int k, Message m) {
            done.add(k);
            if (m.erase) {
                erased.add(m.letter);
                return;
            }
            integrated = true;
            if (text.woot) {
                woot(m.letter, m.letter.left, m.letter.right);
            } else {
                yata(m.letter);
            }
        }

        int told(int k) {
            Message m = text.messages.get(k);
            if (done.contains(k) || waiting.containsKey(k)) {
                return 0;
            }
            if (!ready(m)) {
                waiting.put(k, m);
                return 0;
            }
            carryOut(k, m);
            int count = 1;
            Integer next = least();
            while (next != null) {
                carryOut(next, waiting.remove(next));
                count++;
                next = least();
            }
            return count;
        }

        Integer least() {
            for (Integer k : waiting.keySet()) {
                if (ready(waiting.get(k))) {
                    return k;
                }
            }
            return null;
        }

        void woot(Letter c, Letter l, Letter r) {
            int from = row.indexOf(l);
            int to = row.indexOf(r);
            if (from >= to) {
                throw new IllegalStateException("RIGHT is not behind LEFT");
            }
            List<Letter> between = row.subList(from + 1, to);
            if (between.isEmpty()) {
                row.add(to, c);
                return;
            }
            List<Letter> asked = new ArrayList<>();
            asked.add(l);
            for (Letter o : between) {
                looks++;
                if (row.indexOf(o.left) <= from && row.indexOf(o.right) >= to) {
                    asked.add(o);
                }
            }
            asked.add(r);
            int i = 1;
            while (asked.get(i) != r) {
                looks++;
                if (asked.get(i).mark >= c.mark) {
                    break;
                }
                i++;
            }
            woot(c, asked.get(i - 1), asked.get(i));
        }

        void yata(Letter c) {
            if (row.indexOf(c.left) >= row.indexOf(c.right)) {
                throw new IllegalStateException("RIGHT is not behind LEFT");
            }
            Letter place = c.left;
            Set<Letter> passed = new HashSet<>();
            Set<Letter> open = new HashSet<>();
            for (int p = row.indexOf(c.left) + 1; row.get(p) != c.right; p++) {
                Letter o = row.get(p);
                looks++;
                passed.add(o);
                open.add(o);
                if (o.left == c.left) {
                    if (o.site < c.site) {
                        place = o;
                        open.clear();
                    } else if (o.right == c.right) {
                        break;
                    }
                } else if (passed.contains(o.left)) {
                    if (!open.contains(o.left)) {
                        place = o;
                        open.clear();
                    }
                } else {
                    break;
                }
            }
            row.add(row.indexOf(place) + 1, c);
        }

        void endCall() {
            if (integrated) {
                latest = looks;
            }
            looks = 0;
            integrated = false;
        }
    }

    private static final class PlainText {
        final boolean woot;
        final Letter begin = new Letter(-1, -1, -1, null, null);
        final Letter end = new Letter(-1, 9999, -1, null, null);
        final List<Message> messages = new ArrayList<>();
        final List<PlainCopy> copies = new ArrayList<>();
        final int[] clocks = new int[5];
        int letters = 0;
        int erases = 0;

        PlainText(boolean woot) {
            this.woot = woot;
            for (int s = 0; s < 5; s++) {
                copies.add(new PlainCopy(this));
            }
        }
    }

    private static final class PlainPage {
        final PlainText[] texts = {new PlainText(true), new PlainText(false)};
        List<Integer> out = new ArrayList<>();

        PlainCopy copy(int text, int site) {
            return text < 0 || text > 1 || site < 0 || site > 4 ? null : texts[text].copies.get(site);
        }

        int messages(int text) {
            return text < 0 || text > 1 ? 0 : texts[text].messages.size();
        }

        List<Letter> seen(int text, int site) {
            return copy(text, site) == null ? new ArrayList<>() : copy(text, site).seen();
        }

        int make(PlainCopy copy, Message m) {
            int k = copy.text.messages.size();
            copy.text.messages.add(m);
            copy.carryOut(k, m);
            copy.endCall();
            return k;
        }

        int insert(int text, int site, int i, int letter) {
            PlainCopy copy = copy(text, site);
            if (copy == null || letter < 32 || letter > 126 || copy.text.letters == 60) {
                return -1;
            }
            List<Letter> ends = new ArrayList<>(copy.seen());
            if (i < 0 || i > ends.size()) {
                return -1;
            }
            ends.add(0, copy.text.begin);
            ends.add(copy.text.end);
            Letter left = ends.get(i);
            Letter right = copy.text.woot ? ends.get(i + 1) : copy.row.get(copy.row.indexOf(left) + 1);
            int mark = 100 * site + copy.text.clocks[site]++;
            copy.text.letters++;
            return make(copy, new Message(false, site, new Letter(site, mark, letter, left, right)));
        }

        int erase(int text, int site, int i) {
            PlainCopy copy = copy(text, site);
            if (copy == null || i < 0 || i >= copy.seen().size() || copy.text.erases == 100) {
                return -1;
            }
            copy.text.erases++;
            return make(copy, new Message(true, site, copy.seen().get(i)));
        }

        int tell(int text, int site, int k) {
            PlainCopy copy = copy(text, site);
            if (copy == null || k < 0 || k >= copy.text.messages.size()) {
                return -1;
            }
            int count = copy.told(k);
            copy.endCall();
            return count;
        }

        int share(int text, int from, int to, boolean down) {
            PlainCopy source = copy(text, from);
            PlainCopy target = copy(text, to);
            if (source == null || target == null) {
                return -1;
            }
            List<Integer> numbers = new ArrayList<>(source.done);
            Collections.sort(numbers);
            if (down) {
                Collections.reverse(numbers);
            }
            int count = 0;
            for (int k : numbers) {
                count += target.told(k);
            }
            target.endCall();
            return count;
        }

        int look(int text, int site, int what) {
            PlainCopy copy = copy(text, site);
            if (copy == null || what < 0 || what > 6) {
                return -1;
            }
            int[] answers = {copy.text.messages.size(), copy.text.letters, copy.row.size() - 2,
                copy.seen().size(), copy.done.size(), copy.waiting.size(), copy.latest};
            return answers[what];
        }

        int message(int text, int k, int what) {
            if (k < 0 || k >= messages(text) || what < 0 || what > 5) {
                return -1;
            }
            Message m = texts[text].messages.get(k);
            int[] answers = {m.erase ? 1 : 0, m.site, m.letter.mark, m.letter.left.mark, m.letter.right.mark,
                m.letter.letter};
            return answers[what];
        }

        int state(int text, int site, int k) {
            PlainCopy copy = copy(text, site);
            if (copy == null || k < 0 || k >= messages(text)) {
                return -1;
            }
            return copy.done.contains(k) ? 2 : copy.waiting.containsKey(k) ? 1 : 0;
        }

        int character(int text, int site, int i, int what) {
            PlainCopy copy = copy(text, site);
            if (copy == null || i < 0 || i >= copy.row.size() - 2 || what < 0 || what > 4) {
                return -1;
            }
            Letter c = copy.row.get(i + 1);
            int[] answers = {c.mark, c.letter, copy.erased.contains(c) ? 0 : 1,
                copy.row.indexOf(c.left) - 1, copy.row.indexOf(c.right) - 1};
            return answers[what];
        }

        int write(int text, int site) {
            if (copy(text, site) == null) {
                return -1;
            }
            out = new ArrayList<>();
            for (Letter c : seen(text, site)) {
                out.add(c.letter);
            }
            return out.size();
        }

        int out(int i) {
            return i < 0 || i >= out.size() ? -1 : out.get(i);
        }

        boolean same(int text, int a, int b) {
            PlainCopy one = copy(text, a);
            PlainCopy other = copy(text, b);
            return one != null && other != null && one.row.equals(other.row) && one.erased.equals(other.erased);
        }

        boolean shuffle(int text, int site, int seed) {
            PlainCopy copy = copy(text, site);
            if (copy == null) {
                return false;
            }
            PlainCopy built = new PlainCopy(copy.text);
            List<Integer> left = new ArrayList<>(copy.done);
            Collections.sort(left);
            while (!left.isEmpty()) {
                seed = seed * 1103515245 + 12345;
                built.told(left.remove((seed >>> 16) % left.size()));
            }
            return built.row.equals(copy.row) && built.erased.equals(copy.erased) && built.waiting.isEmpty();
        }

        /** Every FREE order, written down one by one, the least first. */
        List<List<Letter>> all(PlainCopy copy) {
            List<Letter> rest = new ArrayList<>(copy.row.subList(1, copy.row.size() - 1));
            rest.sort((a, b) -> Integer.compare(a.mark, b.mark));
            List<List<Letter>> found = new ArrayList<>();
            extend(new ArrayList<>(), rest, found);
            return found;
        }

        void extend(List<Letter> order, List<Letter> rest, List<List<Letter>> found) {
            if (rest.isEmpty()) {
                if (isFree(order)) {
                    found.add(new ArrayList<>(order));
                }
                return;
            }
            for (int i = 0; i < rest.size(); i++) {
                Letter c = rest.remove(i);
                order.add(c);
                extend(order, rest, found);
                order.remove(order.size() - 1);
                rest.add(i, c);
            }
        }

        boolean isFree(List<Letter> order) {
            for (Letter c : order) {
                int at = order.indexOf(c);
                int left = order.indexOf(c.left);
                int right = order.indexOf(c.right);
                if (left > at || right >= 0 && right < at) {
                    return false;
                }
            }
            return true;
        }

        long orders(int text, int site) {
            return all(copy(text, site)).size();
        }

        long number(int text, int site) {
            PlainCopy copy = copy(text, site);
            return all(copy).indexOf(copy.row.subList(1, copy.row.size() - 1));
        }
    }
}
