/**
 * A shared page: five sites write into copies of two texts, one kept by the rules of WOOT, one by
 * those of YATA. The words in capitals are those of the document (DOC.md).
 *
 * Every row is made in a constructor and used again: no call makes an object.
 */
public final class SharedPage {
    public static final int NONE = -1;

    private static final int TEXTS = 2;
    private static final int WOOT = 0;
    private static final int SITES = 5;

    private static final int MOST_CHARACTERS = 60;
    private static final int MOST_ERASES = 100;
    private static final int MOST_MESSAGES = MOST_CHARACTERS + MOST_ERASES;
    private static final int MOST_ORDERED = 12;

    private static final int LEAST_LETTER = 32;
    private static final int GREATEST_LETTER = 126;

    // CHARACTERS are known inside by the order in which they were made, 0 .. 59; so BEGIN and END
    // bear numbers that none of them can have.
    private static final int BEGIN = -1;
    private static final int END = MOST_CHARACTERS;

    private static final int BEGIN_MARK = -1;
    private static final int END_MARK = 9999;
    private static final int MARKS_OF_A_SITE = 100;

    private static final int INSERT = 0;
    private static final int ERASE = 1;

    private static final int UNTOLD = 0;
    private static final int WAITS = 1;
    private static final int DONE = 2;

    // BEGIN's place is -1, so a CHARACTER that is not in a copy needs another number.
    private static final int ABSENT = -2;

    private final Text[] texts;
    private final Copy[] copies;
    private final Copy[] spares;
    private final FreeOrders freeOrders;
    private final int[] drawing;
    private final int[] written;
    private int writtenLength;

    public SharedPage() {
        texts = new Text[TEXTS];
        copies = new Copy[TEXTS * SITES];
        spares = new Copy[TEXTS];
        for (int t = 0; t < TEXTS; t++) {
            Text made = new Text(t == WOOT);
            texts[t] = made;
            spares[t] = new Copy(made);
            for (int s = 0; s < SITES; s++) {
                copies[t * SITES + s] = new Copy(made);
            }
        }
        freeOrders = new FreeOrders();
        drawing = new int[MOST_MESSAGES];
        written = new int[MOST_CHARACTERS];
        writtenLength = 0;
    }

    public int insert(int text, int site, int i, int letter) {
        Copy copy = copyAt(text, site);
        if (copy == null || i < 0 || i > copy.seen) {
            return NONE;
        }
        if (letter < LEAST_LETTER || letter > GREATEST_LETTER) {
            return NONE;
        }
        int left = copy.leftForPlace(i);
        int right = copy.rightForPlace(i);
        int k = copy.text.addInsert(site, left, right, letter);
        copy.doOwn(k);
        return k;
    }

    public int erase(int text, int site, int i) {
        Copy copy = copyAt(text, site);
        if (copy == null || i < 0 || i >= copy.seen) {
            return NONE;
        }
        int k = copy.text.addErase(site, copy.seenAt(i));
        copy.doOwn(k);
        return k;
    }

    public int tell(int text, int site, int k) {
        Copy copy = copyAt(text, site);
        if (copy == null || !copy.text.hasMessage(k)) {
            return NONE;
        }
        copy.startCall();
        int count = copy.hear(k);
        copy.endCall();
        return count;
    }

    public int share(int text, int from, int to, boolean down) {
        Copy source = copyAt(text, from);
        Copy target = copyAt(text, to);
        if (source == null || target == null) {
            return NONE;
        }
        target.startCall();
        int count = 0;
        int messages = source.text.messages;
        for (int step = 0; step < messages; step++) {
            int k = down ? messages - 1 - step : step;
            if (source.stateOf(k) == DONE) {
                count += target.hear(k);
            }
        }
        target.endCall();
        return count;
    }

    public int look(int text, int site, int what) {
        Copy copy = copyAt(text, site);
        if (copy == null) {
            return NONE;
        }
        switch (what) {
            case 0: return copy.text.messages;
            case 1: return copy.text.characters;
            case 2: return copy.length;
            case 3: return copy.seen;
            case 4: return copy.done;
            case 5: return copy.waiting;
            case 6: return copy.looks;
            default: return NONE;
        }
    }

    public int message(int text, int k, int what) {
        Text asked = textAt(text);
        if (asked == null || !asked.hasMessage(k)) {
            return NONE;
        }
        int c = asked.subjectOf(k);
        switch (what) {
            case 0: return asked.kindOf(k);
            case 1: return asked.makerOf(k);
            case 2: return asked.markOf(c);
            case 3: return asked.markOf(asked.leftOf(c));
            case 4: return asked.markOf(asked.rightOf(c));
            case 5: return asked.letterOf(c);
            default: return NONE;
        }
    }

    public int state(int text, int site, int k) {
        Copy copy = copyAt(text, site);
        if (copy == null || !copy.text.hasMessage(k)) {
            return NONE;
        }
        return copy.stateOf(k);
    }

    public int character(int text, int site, int i, int what) {
        Copy copy = copyAt(text, site);
        if (copy == null || i < 0 || i >= copy.length) {
            return NONE;
        }
        int c = copy.characterAt(i);
        switch (what) {
            case 0: return copy.text.markOf(c);
            case 1: return copy.text.letterOf(c);
            case 2: return copy.isSeen(c) ? 1 : 0;
            case 3: return copy.placeOf(copy.text.leftOf(c));
            case 4: return copy.placeOf(copy.text.rightOf(c));
            default: return NONE;
        }
    }

    public int write(int text, int site) {
        Copy copy = copyAt(text, site);
        if (copy == null) {
            return NONE;
        }
        int length = 0;
        for (int p = 0; p < copy.length; p++) {
            int c = copy.characterAt(p);
            if (copy.isSeen(c) && length < written.length) {
                written[length] = copy.text.letterOf(c);
                length++;
            }
        }
        writtenLength = length;
        return length;
    }

    public int out(int i) {
        if (i < 0 || i >= writtenLength || i >= written.length) {
            return NONE;
        }
        return written[i];
    }

    public boolean same(int text, int a, int b) {
        Copy one = copyAt(text, a);
        Copy other = copyAt(text, b);
        return one != null && other != null && one.isLike(other);
    }

    public boolean shuffle(int text, int site, int seed) {
        Copy copy = copyAt(text, site);
        Copy spare = spareOf(text);
        if (copy == null || spare == null) {
            return false;
        }
        spare.makeEmpty();
        int drawn = seed;
        for (int remaining = listDone(copy); remaining > 0; remaining--) {
            drawn = drawn * 1103515245 + 12345;
            int k = takeDrawn((drawn >>> 16) % remaining, remaining);
            spare.hear(k);
        }
        return spare.waiting == 0 && spare.isLike(copy);
    }

    public long orders(int text, int site) {
        Copy copy = copyAt(text, site);
        if (copy == null || copy.length > MOST_ORDERED) {
            return NONE;
        }
        return freeOrders.countOf(copy);
    }

    public long number(int text, int site) {
        Copy copy = copyAt(text, site);
        if (copy == null || copy.length > MOST_ORDERED) {
            return NONE;
        }
        return freeOrders.rankOf(copy);
    }

    private Text textAt(int text) {
        return text >= 0 && text < texts.length ? texts[text] : null;
    }

    private Copy spareOf(int text) {
        return text >= 0 && text < spares.length ? spares[text] : null;
    }

    private Copy copyAt(int text, int site) {
        if (text < 0 || text >= TEXTS || site < 0 || site >= SITES) {
            return null;
        }
        int at = text * SITES + site;
        return at < copies.length ? copies[at] : null;
    }

    /** Puts the numbers of all that is DONE at a copy into the drawing, the least first: how many. */
    private int listDone(Copy copy) {
        int count = 0;
        for (int k = 0; k < copy.text.messages; k++) {
            if (copy.stateOf(k) == DONE && count < drawing.length) {
                drawing[count] = k;
                count++;
            }
        }
        return count;
    }

    /** Takes one out of the first so many of the drawing; those behind it move up. */
    private int takeDrawn(int at, int remaining) {
        if (at < 0 || at >= remaining || remaining > drawing.length) {
            return NONE;
        }
        int taken = drawing[at];
        for (int p = at + 1; p < remaining; p++) {
            drawing[p - 1] = drawing[p];
        }
        return taken;
    }

    /** What all sites know alike of one text: its CHARACTERS and its MESSAGES, as they were made. */
    private static final class Text {
        final boolean woot;
        private final int[] sites;
        private final int[] marks;
        private final int[] letters;
        private final int[] lefts;
        private final int[] rights;
        private final int[] kinds;
        private final int[] makers;
        private final int[] subjects;
        private final int[] madeBy;
        int characters;
        int messages;
        private int erases;

        Text(boolean woot) {
            this.woot = woot;
            sites = new int[MOST_CHARACTERS];
            marks = new int[MOST_CHARACTERS];
            letters = new int[MOST_CHARACTERS];
            lefts = new int[MOST_CHARACTERS];
            rights = new int[MOST_CHARACTERS];
            kinds = new int[MOST_MESSAGES];
            makers = new int[MOST_MESSAGES];
            subjects = new int[MOST_MESSAGES];
            madeBy = new int[SITES];
            characters = 0;
            messages = 0;
            erases = 0;
        }

        /** Makes a CHARACTER and the INSERT of it: the message's number, NONE if 60 were made. */
        int addInsert(int site, int left, int right, int letter) {
            int c = characters;
            if (c < 0 || c >= MOST_CHARACTERS || site < 0 || site >= SITES) {
                return NONE;
            }
            sites[c] = site;
            marks[c] = MARKS_OF_A_SITE * site + madeBy[site];
            letters[c] = letter;
            lefts[c] = left;
            rights[c] = right;
            madeBy[site]++;
            characters++;
            return addMessage(INSERT, site, c);
        }

        /** Makes an ERASE: the message's number, NONE if 100 were made. */
        int addErase(int site, int c) {
            if (erases >= MOST_ERASES) {
                return NONE;
            }
            erases++;
            return addMessage(ERASE, site, c);
        }

        private int addMessage(int kind, int site, int c) {
            int k = messages;
            if (k < 0 || k >= MOST_MESSAGES) {
                return NONE;
            }
            kinds[k] = kind;
            makers[k] = site;
            subjects[k] = c;
            messages++;
            return k;
        }

        boolean hasMessage(int k) {
            return k >= 0 && k < messages && k < MOST_MESSAGES;
        }

        int kindOf(int k) {
            return hasMessage(k) ? kinds[k] : NONE;
        }

        int makerOf(int k) {
            return hasMessage(k) ? makers[k] : NONE;
        }

        int subjectOf(int k) {
            return hasMessage(k) ? subjects[k] : NONE;
        }

        private boolean hasCharacter(int c) {
            return c >= 0 && c < characters && c < MOST_CHARACTERS;
        }

        int markOf(int c) {
            if (hasCharacter(c)) {
                return marks[c];
            }
            return c == BEGIN ? BEGIN_MARK : END_MARK;
        }

        int siteOf(int c) {
            return hasCharacter(c) ? sites[c] : NONE;
        }

        int letterOf(int c) {
            return hasCharacter(c) ? letters[c] : NONE;
        }

        int leftOf(int c) {
            return hasCharacter(c) ? lefts[c] : BEGIN;
        }

        int rightOf(int c) {
            return hasCharacter(c) ? rights[c] : END;
        }
    }

    /** One site's copy of a text: its SEQUENCE, and how it stands with each of the MESSAGES. */
    private static final class Copy {
        final Text text;
        private final int[] sequence;
        private final int[] places;
        private final boolean[] erased;
        private final int[] states;
        int length;
        int seen;
        int done;
        int waiting;
        int looks;
        private int looksOfCall;
        private int integratedInCall;

        Copy(Text text) {
            this.text = text;
            sequence = new int[MOST_CHARACTERS];
            places = new int[MOST_CHARACTERS];
            erased = new boolean[MOST_CHARACTERS];
            states = new int[MOST_MESSAGES];
            makeEmpty();
        }

        void makeEmpty() {
            for (int c = 0; c < MOST_CHARACTERS; c++) {
                places[c] = ABSENT;
                erased[c] = false;
            }
            for (int k = 0; k < MOST_MESSAGES; k++) {
                states[k] = UNTOLD;
            }
            length = 0;
            seen = 0;
            done = 0;
            waiting = 0;
            looks = 0;
            looksOfCall = 0;
            integratedInCall = 0;
        }

        void startCall() {
            looksOfCall = 0;
            integratedInCall = 0;
        }

        void endCall() {
            if (integratedInCall > 0) {
                looks = looksOfCall;
            }
        }

        /** Does what this site made itself; nothing that WAITS can need what no other site knows. */
        void doOwn(int k) {
            if (!text.hasMessage(k)) {
                return;
            }
            startCall();
            carryOut(k);
            endCall();
        }

        /** This site is TOLD a message: how many were DONE by that. */
        int hear(int k) {
            if (!text.hasMessage(k) || stateOf(k) != UNTOLD) {
                return 0;
            }
            if (!canBeDone(k)) {
                setState(k, WAITS);
                waiting++;
                return 0;
            }
            carryOut(k);
            int count = 1;
            for (int turn = 0; turn < MOST_MESSAGES; turn++) {
                int next = leastReady();
                if (next == NONE) {
                    break;
                }
                waiting--;
                carryOut(next);
                count++;
            }
            return count;
        }

        /** The least number of those that WAIT and can be done now, NONE if there is none. */
        private int leastReady() {
            if (waiting == 0) {
                return NONE;
            }
            for (int k = 0; k < text.messages; k++) {
                if (stateOf(k) == WAITS && canBeDone(k)) {
                    return k;
                }
            }
            return NONE;
        }

        private boolean canBeDone(int k) {
            int c = text.subjectOf(k);
            if (text.kindOf(k) == ERASE) {
                return placeOf(c) != ABSENT;
            }
            return placeOf(text.leftOf(c)) != ABSENT && placeOf(text.rightOf(c)) != ABSENT;
        }

        private void carryOut(int k) {
            int c = text.subjectOf(k);
            setState(k, DONE);
            done++;
            if (text.kindOf(k) == ERASE) {
                strike(c);
            } else {
                putAt(text.woot ? wootPlace(c) : yataPlace(c), c);
            }
        }

        private void strike(int c) {
            if (isSeen(c) && c < MOST_CHARACTERS) {
                erased[c] = true;
                seen--;
            }
        }

        private void putAt(int at, int c) {
            if (at < 0 || at > length || length >= MOST_CHARACTERS) {
                return;
            }
            for (int p = length; p > at; p--) {
                sequence[p] = sequence[p - 1];
                setPlace(sequence[p], p);
            }
            sequence[at] = c;
            setPlace(c, at);
            length++;
            seen++;
            integratedInCall++;
        }

        /** Where WOOT puts a CHARACTER: the place of the one that it comes right ahead of. */
        private int wootPlace(int c) {
            int l = placeOf(text.leftOf(c));
            int r = placeOf(text.rightOf(c));
            int mark = text.markOf(c);
            // Each turn leaves fewer between l and r: the eldest of those between always is in the ROW.
            for (int turn = 0; turn < MOST_CHARACTERS && r - l > 1; turn++) {
                looksOfCall += r - l - 1;
                int ahead = l;
                int behind = r;
                for (int p = l + 1; p < r && behind == r; p++) {
                    int o = characterAt(p);
                    if (spans(o, l, r)) {
                        looksOfCall++;
                        if (text.markOf(o) < mark) {
                            ahead = p;
                        } else {
                            behind = p;
                        }
                    }
                }
                l = ahead;
                r = behind;
            }
            return r;
        }

        /** Whether a CHARACTER's LEFT is not behind place l and its RIGHT not ahead of place r. */
        private boolean spans(int o, int l, int r) {
            return placeOf(text.leftOf(o)) <= l && placeOf(text.rightOf(o)) >= r;
        }

        /** Where YATA puts a CHARACTER: right behind what its rules call the place. */
        private int yataPlace(int c) {
            int left = text.leftOf(c);
            int first = placeOf(left) + 1;
            int end = placeOf(text.rightOf(c));
            int at = first;
            // PASSED are the places from first on, OPEN those from at on: all behind the latest place.
            for (int p = first; p < end; p++) {
                looksOfCall++;
                int o = characterAt(p);
                int leftOfO = text.leftOf(o);
                if (leftOfO == left) {
                    if (text.siteOf(o) < text.siteOf(c)) {
                        at = p + 1;
                    } else if (text.rightOf(o) == text.rightOf(c)) {
                        break;
                    }
                } else if (placeOf(leftOfO) < first) {
                    break;
                } else if (placeOf(leftOfO) < at) {
                    at = p + 1;
                }
            }
            return at;
        }

        /** The LEFT of what is INSERTED at a place. */
        int leftForPlace(int i) {
            return i <= 0 ? BEGIN : seenAt(i - 1);
        }

        /** The RIGHT of what is INSERTED at a place: YATA counts erased ones, WOOT does not. */
        int rightForPlace(int i) {
            return text.woot ? seenAt(i) : characterAt(placeOf(leftForPlace(i)) + 1);
        }

        /** The CHARACTER that is seen at a place, counted from 0; END behind the last one. */
        int seenAt(int i) {
            int ahead = 0;
            for (int p = 0; p < length; p++) {
                int c = characterAt(p);
                if (isSeen(c)) {
                    if (ahead == i) {
                        return c;
                    }
                    ahead++;
                }
            }
            return END;
        }

        /** The CHARACTER at a place of the SEQUENCE; END behind the last one. */
        int characterAt(int p) {
            return p >= 0 && p < length && p < MOST_CHARACTERS ? sequence[p] : END;
        }

        /** -1 for BEGIN, the SEQUENCE's length for END, ABSENT for what is not in the copy. */
        int placeOf(int c) {
            if (c < 0) {
                return -1;
            }
            return c < MOST_CHARACTERS ? places[c] : length;
        }

        private void setPlace(int c, int p) {
            if (c >= 0 && c < MOST_CHARACTERS) {
                places[c] = p;
            }
        }

        boolean isSeen(int c) {
            return c >= 0 && c < MOST_CHARACTERS && places[c] != ABSENT && !erased[c];
        }

        int stateOf(int k) {
            return k >= 0 && k < MOST_MESSAGES ? states[k] : UNTOLD;
        }

        private void setState(int k, int state) {
            if (k >= 0 && k < MOST_MESSAGES) {
                states[k] = state;
            }
        }

        /** Whether another copy of this text has the same SEQUENCE, the same ones of it erased. */
        boolean isLike(Copy other) {
            if (other == null || length != other.length) {
                return false;
            }
            for (int p = 0; p < length; p++) {
                int c = characterAt(p);
                if (c != other.characterAt(p) || isSeen(c) != other.isSeen(c)) {
                    return false;
                }
            }
            return true;
        }
    }

    /**
     * The FREE orders of a copy of at most 12 CHARACTERS. A set of them is an int: bit p stands for
     * the one at place p of the SEQUENCE.
     */
    private static final class FreeOrders {
        // In how many ways the rest can come behind a set that stands already; 0 if it can't stand.
        private final long[] ways;
        // Which ones must come behind the one at a place.
        private final int[] followers;

        FreeOrders() {
            ways = new long[1 << MOST_ORDERED];
            followers = new int[MOST_ORDERED];
        }

        long countOf(Copy copy) {
            weigh(copy);
            return waysFrom(0);
        }

        /** How many FREE orders come ahead of the SEQUENCE itself. */
        long rankOf(Copy copy) {
            weigh(copy);
            int n = Math.min(copy.length, MOST_ORDERED);
            long rank = 0;
            for (int p = 0; p < n; p++) {
                int standing = (1 << p) - 1;
                int mark = copy.text.markOf(copy.characterAt(p));
                for (int x = p + 1; x < n; x++) {
                    if (copy.text.markOf(copy.characterAt(x)) < mark) {
                        rank += waysFrom(standing | (1 << x));
                    }
                }
            }
            return rank;
        }

        private long waysFrom(int set) {
            return set >= 0 && set < ways.length ? ways[set] : 0;
        }

        private void weigh(Copy copy) {
            int n = Math.min(copy.length, MOST_ORDERED);
            int all = (1 << n) - 1;
            listFollowers(copy, n);
            for (int set = 0; set <= all && set < ways.length; set++) {
                ways[set] = set == all ? 1 : 0;
            }
            for (int set = all; set > 0; set--) {
                if (waysFrom(set) != 0) {
                    handOn(set, n);
                }
            }
        }

        private void listFollowers(Copy copy, int n) {
            for (int p = 0; p < MOST_ORDERED; p++) {
                followers[p] = 0;
            }
            for (int p = 0; p < n; p++) {
                int c = copy.characterAt(p);
                addFollower(copy.placeOf(copy.text.leftOf(c)), p, n);
                addFollower(p, copy.placeOf(copy.text.rightOf(c)), n);
            }
        }

        /** Says that place p's must come ahead of place q's, if neither is BEGIN or END. */
        private void addFollower(int p, int q, int n) {
            if (p >= 0 && p < n && p < MOST_ORDERED && q >= 0 && q < n) {
                followers[p] |= 1 << q;
            }
        }

        /** Adds a set's ways to those of each set that lacks one which may stand last in it. */
        private void handOn(int set, int n) {
            for (int x = 0; x < n && x < MOST_ORDERED; x++) {
                int bit = 1 << x;
                int smaller = set & ~bit;
                boolean mayBeLast = smaller != set && (followers[x] & set) == 0;
                if (mayBeLast && smaller >= 0 && smaller < ways.length) {
                    ways[smaller] += waysFrom(set);
                }
            }
        }
    }
}
