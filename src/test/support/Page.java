/**
 * A SharedPage that counts its calls: the document speaks for 512 of them, so a test that makes more
 * would ask for what is free.
 */
final class Page {
    static final int MOST_CALLS = 512;
    private final SharedPage page = new SharedPage();
    private int calls = 0;

    /** How many calls are left. */
    int remaining() {
        return MOST_CALLS - calls;
    }

    private SharedPage called() {
        if (calls >= MOST_CALLS) {
            throw new IllegalStateException("a test calls one object more than " + MOST_CALLS + " times");
        }
        calls++;
        return page;
    }

    int insert(int text, int site, int i, int letter) {
        return called().insert(text, site, i, letter);
    }

    int erase(int text, int site, int i) {
        return called().erase(text, site, i);
    }

    int tell(int text, int site, int k) {
        return called().tell(text, site, k);
    }

    int share(int text, int from, int to, boolean down) {
        return called().share(text, from, to, down);
    }

    int look(int text, int site, int what) {
        return called().look(text, site, what);
    }

    int message(int text, int k, int what) {
        return called().message(text, k, what);
    }

    int state(int text, int site, int k) {
        return called().state(text, site, k);
    }

    int character(int text, int site, int i, int what) {
        return called().character(text, site, i, what);
    }

    int write(int text, int site) {
        return called().write(text, site);
    }

    int out(int i) {
        return called().out(i);
    }

    boolean same(int text, int a, int b) {
        return called().same(text, a, b);
    }

    boolean shuffle(int text, int site, int seed) {
        return called().shuffle(text, site, seed);
    }

    long orders(int text, int site) {
        return called().orders(text, site);
    }

    long number(int text, int site) {
        return called().number(text, site);
    }

    /** A site INSERTS letters one behind the other, the first one at place i. */
    void type(int text, int site, int i, String letters) {
        for (int p = 0; p < letters.length(); p++) {
            insert(text, site, i + p, letters.charAt(p));
        }
    }

    /** All sites are TOLD what is DONE at one. */
    void shareWithAll(int text, int from) {
        for (int site = 0; site < 5; site++) {
            share(text, from, site, false);
        }
    }

    /** The SEQUENCE of a copy by its letters, the erased ones in brackets. */
    String sequence(int text, int site) {
        StringBuilder row = new StringBuilder();
        int length = look(text, site, 2);
        for (int i = 0; i < length; i++) {
            char letter = (char) character(text, site, i, 1);
            row.append(character(text, site, i, 2) == 1 ? "" + letter : "(" + letter + ")");
        }
        return row.toString();
    }

    /** OUT by its letters. */
    String allOut() {
        StringBuilder row = new StringBuilder();
        for (int b = out(0); b != SharedPage.NONE && row.length() <= 60; b = out(row.length())) {
            row.append((char) b);
        }
        return row.toString();
    }

    /** What look() answers of a text at each site, all of it in one line. */
    String looks(int text) {
        StringBuilder row = new StringBuilder();
        for (int site = 0; site < 5; site++) {
            for (int what = 0; what <= 6; what++) {
                row.append(look(text, site, what)).append(what < 6 ? " " : "; ");
            }
        }
        return row.toString();
    }
}
