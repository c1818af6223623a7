/**
 * The boundary cases that the promises 1 to 15 name, a method for each sentence: both sides of the
 * boundary where it has two.
 */
public final class PromisesBoundariesTest extends Checks {
    private static final int NONE = SharedPage.NONE;
    private static final int WOOT = 0;
    private static final int YATA = 1;
    private static final int BEGIN = -1;
    private static final int END = 9999;
    private static final int LEAST = Integer.MIN_VALUE;
    private static final int GREATEST = Integer.MAX_VALUE;
    private static final int[] NO_TEXT = {-1, 2, LEAST, GREATEST};
    private static final int[] NO_SITE = {-1, 5, LEAST, GREATEST};
    private static final int[] SEEDS = {0, 1, -1, 2, 12345, -12345, 1 << 16, 1 << 31, LEAST + 1, GREATEST};
    private static final String SIXTY = "abcdefghijklmnopqrstuvwxyzABCDEFGHIJKLMNOPQRSTUVWXYZ01234567";

    public static void main(String[] args) {
        noneIsMinus1();
        newTextsAreEmpty();
        newOutIsEmpty();
        insertNoSuchText();
        insertNoSuchSite();
        insertNoSuchPlace();
        insertAnotherLetter();
        insert60WereMade();
        eraseAtPlaces();
        eraseNoSuchText();
        eraseNoSuchSite();
        eraseNoSuchPlace();
        erase100WereMade();
        tellHowManyWereDone();
        tellNoSuchTextOrSite();
        tellNoSuchMessage();
        shareAllThatIsDone();
        shareDownOrUp();
        shareHowManyWereDone();
        shareNoSuchTextOrSites();
        lookAnotherWhat();
        lookAnotherTextOrSite();
        lookAtTheText();
        lookAtTheSite();
        looksAreZeroAheadOfAny();
        looksOfTheLatestCall();
        looksOfThatCallAlone();
        messageAnotherWhat();
        messageAnotherTextOrMessage();
        messageOfAnErase();
        stateOfThreeKinds();
        stateNoSuch();
        characterErasedOnesCount();
        characterAtTheEnds();
        characterAnotherWhat();
        characterNoneSuch();
        writeTheSeenLetters();
        writeFull();
        writeOutStays();
        outNone();
        sameSequence();
        sameErased();
        sameFalseToo();
        shuffleEmptyAndFull();
        shuffleSeedWraps();
        shuffleOnlyWhatIsDone();
        shuffleFalseToo();
        ordersOfNone();
        ordersOfMoreThan12();
        ordersErasedOnesCount();
        ordersNoSuch();
        numberFrom0On();
        numberAtTheFirstUnlikePlace();
        numberNoneAsInOrders();
        end();
    }

    private static String everything(Page page) {
        return page.looks(WOOT) + page.looks(YATA);
    }

    private static void noneIsMinus1() {
        sentence("NONE = -1");
        due("NONE", SharedPage.NONE, -1);
    }

    private static void newTextsAreEmpty() {
        sentence("Promise 1: Empty texts everywhere");
        for (int text = 0; text < 2; text++) {
            Page page = new Page();
            due("look()", page.looks(text), "0 0 0 0 0 0 0; ".repeat(5));
            due("message 0", page.message(text, 0, 0), NONE);
            for (int site = 0; site < 5; site++) {
                due("state", page.state(text, site, 0), NONE);
                due("tell", page.tell(text, site, 0), NONE);
                due("character", page.character(text, site, 0, 0), NONE);
                due("erase", page.erase(text, site, 0), NONE);
                due("share", page.share(text, site, 4 - site, true), 0);
                due("same", page.same(text, site, 4 - site), true);
                due("write", page.write(text, site), 0);
                due("shuffle", page.shuffle(text, site, 3), true);
                due("orders", page.orders(text, site), 1);
                due("number", page.number(text, site), 0);
            }
            page.insert(text, 0, 0, 'a');
            due("another object", new Page().looks(text), "0 0 0 0 0 0 0; ".repeat(5));
        }
    }

    private static void newOutIsEmpty() {
        sentence("Promise 1: OUT is empty");
        Page page = new Page();
        for (int i : new int[] {0, 1, 59, 60, -1}) {
            due("out(" + i + ")", page.out(i), NONE);
        }
        page.insert(WOOT, 0, 0, 'a');
        due("out(0) with a letter that is not written", page.out(0), NONE);
        page.write(WOOT, 0);
        due("out(0) written", page.out(0), 'a');
        due("out(0) of another object", new Page().out(0), NONE);
    }

    private static void insertNoSuchText() {
        sentence("Promise 2: NONE, and nothing is done: no such text");
        for (int none : NO_TEXT) {
            Page page = new Page();
            String before = everything(page);
            due("text " + none, page.insert(none, 0, 0, 'a'), NONE);
            due("nothing is done", everything(page), before);
            due("text 0", page.insert(0, 0, 0, 'a'), 0);
            due("text 1", page.insert(1, 0, 0, 'a'), 0);
        }
    }

    private static void insertNoSuchSite() {
        sentence("Promise 2: NONE, and nothing is done: no such site");
        for (int text = 0; text < 2; text++) {
            for (int none : NO_SITE) {
                Page page = new Page();
                String before = everything(page);
                due("site " + none, page.insert(text, none, 0, 'a'), NONE);
                due("nothing is done", everything(page), before);
                due("site 0", page.insert(text, 0, 0, 'a'), 0);
                due("site 4", page.insert(text, 4, 0, 'a'), 1);
            }
        }
    }

    private static void insertNoSuchPlace() {
        sentence("Promise 2: NONE, and nothing is done: no such place");
        for (int text = 0; text < 2; text++) {
            Page page = new Page();
            page.type(text, 2, 0, "abc");
            page.erase(text, 2, 1);
            String before = everything(page);
            for (int none : new int[] {-1, 3, 4, 60, LEAST, GREATEST}) {
                due("place " + none, page.insert(text, 2, none, 'x'), NONE);
            }
            due("place 1 of an empty copy", page.insert(text, 3, 1, 'x'), NONE);
            due("nothing is done", everything(page), before);
            due("the SEQUENCE", page.sequence(text, 2), "a(b)c");
            due("place 2", page.insert(text, 2, 2, 'd'), 4);
            due("its MARK", page.message(text, 4, 2), 203);
            due("place 0", page.insert(text, 2, 0, 'z'), 5);
            due("the SEQUENCE then", page.sequence(text, 2), "za(b)cd");
        }
    }

    private static void insertAnotherLetter() {
        sentence("Promise 2: NONE, and nothing is done: another letter");
        for (int text = 0; text < 2; text++) {
            Page page = new Page();
            page.insert(text, 1, 0, 'a');
            String before = everything(page);
            for (int letter : new int[] {31, 127, 0, -1, 32 - 256, 126 + 256, LEAST, GREATEST}) {
                due("letter " + letter, page.insert(text, 1, 1, letter), NONE);
            }
            due("nothing is done", everything(page), before);
            due("letter 32", page.insert(text, 1, 1, 32), 1);
            due("letter 126", page.insert(text, 1, 2, 126), 2);
            due("its MARK", page.message(text, 2, 2), 102);
            due("the SEQUENCE", page.sequence(text, 1), "a ~");
        }
    }

    private static void insert60WereMade() {
        sentence("Promise 2: NONE, and nothing is done: 60 were made");
        for (int text = 0; text < 2; text++) {
            Page page = new Page();
            page.insert(1 - text, 0, 0, 'a');
            page.type(text, 0, 0, SIXTY.substring(0, 30));
            page.type(text, 3, 0, SIXTY.substring(30, 59));
            due("the 60th", page.insert(text, 3, 29, 'y'), 59);
            String before = everything(page);
            due("the 61st of site 0", page.insert(text, 0, 0, 'x'), NONE);
            due("the 61st of site 3", page.insert(text, 3, 30, 'x'), NONE);
            due("the 61st of site 4", page.insert(text, 4, 0, 'x'), NONE);
            due("nothing is done", everything(page), before);
            due("message 60", page.message(text, 60, 0), NONE);
            due("the last of the copy", page.character(text, 3, 29, 1), 'y');
            due("the other text goes on", page.insert(1 - text, 0, 1, 'b'), 1);
        }
    }

    private static void eraseAtPlaces() {
        sentence("Promise 3: A site ERASES what is seen at place i (0 .. the seen ones less 1)");
        for (int text = 0; text < 2; text++) {
            Page page = new Page();
            page.type(text, 0, 0, "abcd");
            due("the last place", page.erase(text, 0, 3), 4);
            due("the SEQUENCE", page.sequence(text, 0), "abc(d)");
            due("the first place", page.erase(text, 0, 0), 5);
            due("the SEQUENCE 2", page.sequence(text, 0), "(a)bc(d)");
            due("place 2 of two seen ones", page.erase(text, 0, 2), NONE);
            due("place 1 of two seen ones", page.erase(text, 0, 1), 6);
            due("its CHARACTER", page.message(text, 6, 2), 2);
            due("the SEQUENCE 3", page.sequence(text, 0), "(a)b(c)(d)");
            due("place 1 of one", page.erase(text, 0, 1), NONE);
            due("the only one", page.erase(text, 0, 0), 7);
            due("none is seen", page.erase(text, 0, 0), NONE);
            due("messages", page.look(text, 0, 0), 8);
        }
    }

    private static void eraseNoSuchText() {
        sentence("Promise 3: NONE, and nothing is done: no such text");
        for (int none : NO_TEXT) {
            Page page = new Page();
            page.insert(0, 0, 0, 'a');
            page.insert(1, 0, 0, 'a');
            String before = everything(page);
            due("text " + none, page.erase(none, 0, 0), NONE);
            due("nothing is done", everything(page), before);
            due("text 0", page.erase(0, 0, 0), 1);
            due("text 1", page.erase(1, 0, 0), 1);
        }
    }

    private static void eraseNoSuchSite() {
        sentence("Promise 3: NONE, and nothing is done: no such site");
        for (int text = 0; text < 2; text++) {
            for (int none : NO_SITE) {
                Page page = new Page();
                page.insert(text, 0, 0, 'a');
                page.insert(text, 4, 0, 'a');
                String before = everything(page);
                due("site " + none, page.erase(text, none, 0), NONE);
                due("nothing is done", everything(page), before);
                due("site 0", page.erase(text, 0, 0), 2);
                due("site 4", page.erase(text, 4, 0), 3);
            }
        }
    }

    private static void eraseNoSuchPlace() {
        sentence("Promise 3: NONE, and nothing is done: no such place");
        for (int text = 0; text < 2; text++) {
            Page page = new Page();
            page.type(text, 0, 0, "abc");
            page.erase(text, 0, 0);
            page.tell(text, 1, 2);
            String before = everything(page);
            for (int none : new int[] {-1, 2, 3, 60, LEAST, GREATEST}) {
                due("place " + none, page.erase(text, 0, none), NONE);
            }
            due("place 0 where one WAITS", page.erase(text, 1, 0), NONE);
            due("place 0 of an empty copy", page.erase(text, 2, 0), NONE);
            due("nothing is done", everything(page), before);
            due("the SEQUENCE", page.sequence(text, 0), "(a)bc");
            due("place 1", page.erase(text, 0, 1), 4);
        }
    }

    private static void erase100WereMade() {
        sentence("Promise 3: NONE, and nothing is done: 100 ERASES were made");
        for (int text = 0; text < 2; text++) {
            Page page = new Page();
            page.type(text, 0, 0, SIXTY.substring(0, 50));
            page.share(text, 0, 1, true);
            page.share(text, 0, 2, false);
            for (int made = 0; made < 99; made++) {
                page.erase(text, made / 50, 0);
            }
            page.erase(text, 0, 0);
            page.erase(text, 1, 1);
            due("refused ones do not count: the 100th", page.erase(text, 2, 49), 149);
            String before = everything(page);
            due("the 101st", page.erase(text, 2, 0), NONE);
            due("the 101st of another site", page.erase(text, 1, 0), NONE);
            due("nothing is done", everything(page), before);
            due("message 150", page.message(text, 150, 0), NONE);
            due("49 are seen", page.look(text, 2, 3), 49);
            due("INSERTS go on", page.insert(text, 2, 49, 'x'), 150);
        }
    }

    private static void tellHowManyWereDone() {
        sentence("Promise 4: how many were DONE by that");
        for (int text = 0; text < 2; text++) {
            Page page = new Page();
            page.type(text, 0, 0, SIXTY);
            for (int k = 59; k >= 1; k--) {
                due("it WAITS", page.tell(text, 1, k), 0);
            }
            due("59 WAIT", page.look(text, 1, 5), 59);
            due("all 60", page.tell(text, 1, 0), 60);
            due("none WAITS", page.look(text, 1, 5), 0);
            due("what is DONE", page.tell(text, 1, 59), 0);
            for (int k = 0; k < 60; k++) {
                due("one at a time", page.tell(text, 2, k), 1);
            }
            due("same", page.same(text, 1, 2), true);
        }
    }

    private static void tellNoSuchTextOrSite() {
        sentence("Promise 4: NONE: no such text, site");
        for (int text = 0; text < 2; text++) {
            Page page = new Page();
            page.insert(0, 1, 0, 'a');
            page.insert(1, 1, 0, 'a');
            String before = everything(page);
            for (int none : NO_TEXT) {
                due("text " + none, page.tell(none, 0, 0), NONE);
            }
            for (int none : NO_SITE) {
                due("site " + none, page.tell(text, none, 0), NONE);
            }
            due("nothing is done", everything(page), before);
            due("site 0", page.tell(text, 0, 0), 1);
            due("site 4", page.tell(text, 4, 0), 1);
        }
    }

    private static void tellNoSuchMessage() {
        sentence("Promise 4: NONE: no such message");
        for (int text = 0; text < 2; text++) {
            Page page = new Page();
            due("message 0 of none", page.tell(text, 1, 0), NONE);
            page.type(text, 0, 0, "ab");
            page.type(1 - text, 0, 0, "abcd");
            for (int none : new int[] {-1, 2, 3, 159, 160, 161, LEAST, GREATEST}) {
                due("message " + none, page.tell(text, 1, none), NONE);
            }
            due("none WAITS", page.look(text, 1, 5), 0);
            due("message 2 is made", page.insert(text, 0, 2, 'c'), 2);
            due("what was told ahead of that was not told", page.state(text, 1, 2), 0);
            due("message 0", page.tell(text, 1, 0), 1);
            due("message 2", page.tell(text, 1, 2), 0);
            due("message 3", page.tell(text, 1, 3), NONE);
            due("message 1", page.tell(text, 1, 1), 2);
        }
    }

    private static void shareAllThatIsDone() {
        sentence("Promise 5: Site to is TOLD all that is DONE at site from");
        for (int text = 0; text < 2; text++) {
            Page page = new Page();
            page.type(text, 0, 0, "abc");
            due("nothing is DONE there", page.share(text, 1, 2, true), 0);
            page.tell(text, 1, 2);
            due("what WAITS there", page.share(text, 1, 2, true), 0);
            due("it was not told", page.state(text, 2, 2), 0);
            page.tell(text, 1, 0);
            due("the one that is DONE", page.share(text, 1, 2, false), 1);
            due("not what WAITS", page.state(text, 2, 2), 0);
            due("not what it does not know", page.state(text, 2, 1), 0);
            due("all three", page.share(text, 0, 3, true), 3);
            due("with itself", page.share(text, 0, 0, true), 0);
            due("again", page.share(text, 0, 3, false), 0);
            due("where one WAITS with itself", page.share(text, 1, 1, false), 0);
            due("it still WAITS", page.state(text, 1, 2), 1);
            due("from stays", page.look(text, 0, 4), 3);
        }
    }

    private static void shareDownOrUp() {
        sentence("Promise 5: from the greatest number down (down) or from the least up");
        int[] upLooks = {2 + 4 + 6, 1 + 2 + 3};
        int[] downLooks = {2 + 3 + 4, 1 + 1 + 1};
        for (int text = 0; text < 2; text++) {
            Page page = new Page();
            for (int site = 0; site < 4; site++) {
                page.insert(text, site, 0, 'a' + site);
                page.tell(text, 0, site);
            }
            due("up", page.share(text, 0, 4, false), 4);
            due("LOOKS up", page.look(text, 4, 6), upLooks[text]);
            Page other = new Page();
            for (int site = 0; site < 4; site++) {
                other.insert(text, site, 0, 'a' + site);
                other.tell(text, 0, site);
            }
            due("down", other.share(text, 0, 4, true), 4);
            due("LOOKS down", other.look(text, 4, 6), downLooks[text]);
        }
    }

    private static void shareHowManyWereDone() {
        sentence("Promise 5: how many were DONE by that");
        for (int text = 0; text < 2; text++) {
            for (int turn = 0; turn < 2; turn++) {
                Page page = new Page();
                page.type(text, 0, 0, "ab");
                page.share(text, 0, 1, false);
                page.insert(text, 1, 2, 'c');
                page.erase(text, 1, 0);
                page.tell(text, 2, 2);
                page.tell(text, 2, 3);
                due("two WAIT", page.look(text, 2, 5), 2);
                due("what WAITED counts", page.share(text, 0, 2, turn == 1), 4);
                due("what is DONE does not", page.share(text, 1, 2, turn == 1), 0);
                due("only the new ones", page.share(text, 1, 0, turn == 1), 2);
                due("all four", page.share(text, 1, 3, turn == 1), 4);
                due("the SEQUENCE", page.sequence(text, 3), "(a)bc");
                page.type(text, 4, 0, "pqr");
                page.tell(text, 3, 6);
                due("from site 4", page.share(text, 4, 3, turn == 1), 3);
                due("none WAITS", page.look(text, 3, 5), 0);
            }
        }
    }

    private static void shareNoSuchTextOrSites() {
        sentence("Promise 5: NONE: no such text or sites");
        for (int text = 0; text < 2; text++) {
            Page page = new Page();
            page.insert(0, 4, 0, 'a');
            page.insert(1, 4, 0, 'a');
            String before = everything(page);
            for (int none : NO_TEXT) {
                due("text " + none, page.share(none, 4, 0, true), NONE);
            }
            for (int none : NO_SITE) {
                due("from " + none, page.share(text, none, 0, true), NONE);
                due("to " + none, page.share(text, 4, none, false), NONE);
                due("both " + none, page.share(text, none, none, false), NONE);
            }
            due("nothing is done", everything(page), before);
            due("from 4 to 0", page.share(text, 4, 0, true), 1);
            due("from 0 to 4", page.share(text, 0, 4, true), 0);
        }
    }

    private static void lookAnotherWhat() {
        sentence("Promise 6: NONE for another what");
        for (int text = 0; text < 2; text++) {
            Page page = new Page();
            page.insert(text, 0, 0, 'a');
            for (int none : new int[] {-1, 7, 8, -2, LEAST, GREATEST}) {
                due("what " + none, page.look(text, 0, none), NONE);
            }
            due("what 0", page.look(text, 0, 0), 1);
            due("what 6", page.look(text, 0, 6), 0);
        }
    }

    private static void lookAnotherTextOrSite() {
        sentence("Promise 6: NONE for another text or site");
        Page page = new Page();
        page.insert(0, 0, 0, 'a');
        page.insert(1, 4, 0, 'a');
        for (int what = 0; what <= 6; what++) {
            for (int none : NO_TEXT) {
                due("text " + none + ", what " + what, page.look(none, 0, what), NONE);
            }
            for (int none : NO_SITE) {
                due("site " + none + ", what " + what, page.look(0, none, what), NONE);
                due("site " + none + " of text 1, what " + what, page.look(1, none, what), NONE);
            }
        }
        due("site 0", page.look(0, 0, 2), 1);
        due("site 4", page.look(1, 4, 2), 1);
    }

    private static void lookAtTheText() {
        sentence("Promise 6: Of a text: what 0: messages, 1: CHARACTERS made");
        for (int text = 0; text < 2; text++) {
            Page page = new Page();
            page.type(text, 0, 0, SIXTY);
            page.insert(text, 0, 0, 'x');
            page.erase(text, 0, 0);
            for (int site = 0; site < 5; site++) {
                due("messages, asked at site " + site, page.look(text, site, 0), 61);
                due("CHARACTERS, asked at site " + site, page.look(text, site, 1), 60);
                due("messages of the other text", page.look(1 - text, site, 0), 0);
                due("CHARACTERS of the other text", page.look(1 - text, site, 1), 0);
            }
        }
    }

    private static void lookAtTheSite() {
        sentence("Promise 6: 2: those in its SEQUENCE, 3: seen ones, 4: messages DONE, 5: that WAIT");
        for (int text = 0; text < 2; text++) {
            Page page = new Page();
            page.type(text, 0, 0, "abc");
            page.erase(text, 0, 0);
            page.tell(text, 1, 0);
            page.tell(text, 1, 3);
            page.tell(text, 1, 2);
            due("all sites", page.looks(text), "4 3 3 2 4 0 0; 4 3 1 0 2 1 0; " + "4 3 0 0 0 0 0; ".repeat(3));
            page.tell(text, 1, 1);
            due("none WAITS any more", page.looks(text), "4 3 3 2 4 0 0; ".repeat(2) + "4 3 0 0 0 0 0; ".repeat(3));
        }
    }

    private static void looksAreZeroAheadOfAny() {
        sentence("Promise 6: 6: the LOOKS that the latest call took (0 ahead of any)");
        for (int text = 0; text < 2; text++) {
            Page page = new Page();
            due("a new object", page.look(text, 1, 6), 0);
            page.type(text, 0, 0, "ab");
            page.erase(text, 0, 1);
            due("others have some", page.look(text, 1, 6), 0);
            page.tell(text, 1, 1);
            page.tell(text, 1, 2);
            due("two WAIT", page.look(text, 1, 6), 0);
            page.share(text, 2, 1, true);
            page.insert(text, 1, 1, 'x');
            due("nothing comes", page.look(text, 1, 6), 0);
            page.insert(text, 1, 0, 'c');
            due("an INSERT without LOOKS", page.look(text, 1, 6), 0);
            page.tell(text, 1, 0);
            due("then some", page.look(text, 1, 6) > 0, true);
            due("not at site 0", page.look(text, 0, 6), 0);
            due("not in the other text", page.look(1 - text, 1, 6), 0);
        }
    }

    private static void looksOfTheLatestCall() {
        sentence("Promise 6: the latest call by which CHARACTERS were integrated there");
        for (int text = 0; text < 2; text++) {
            int some = text == WOOT ? 2 : 1;
            Page page = new Page();
            page.insert(text, 0, 0, 'a');
            page.insert(text, 1, 0, 'b');
            page.tell(text, 0, 1);
            due("a tell()", page.look(text, 0, 6), some);
            page.tell(text, 0, 1);
            due("a tell() of what is DONE", page.look(text, 0, 6), some);
            page.erase(text, 0, 0);
            due("an erase()", page.look(text, 0, 6), some);
            page.erase(text, 1, 0);
            page.tell(text, 0, 3);
            due("a tell() of an ERASE", page.look(text, 0, 6), some);
            page.share(text, 1, 0, true);
            due("a share() of nothing new", page.look(text, 0, 6), some);
            page.insert(text, 0, 1, 'x');
            page.insert(text, 0, 0, 31);
            due("an insert() that is refused", page.look(text, 0, 6), some);
            page.shuffle(text, 0, 1);
            page.orders(text, 0);
            page.write(text, 0);
            due("calls that ask", page.look(text, 0, 6), some);
            page.type(text, 2, 0, "cd");
            page.tell(text, 0, 5);
            due("a tell() of what WAITS", page.look(text, 0, 6), some);
            // c finds a and b, and both are below; d, which it wakes, finds none.
            page.tell(text, 0, 4);
            due("a tell() by which two come", page.look(text, 0, 6), 2 * some);
            page.insert(text, 0, 2, 'e');
            due("an insert() that takes none", page.look(text, 0, 6), 0);
            page.share(text, 0, 3, false);
            due("a share()", page.look(text, 3, 6), some + 2 * some);
        }
    }

    private static void looksOfThatCallAlone() {
        sentence("Promise 6: the LOOKS that the latest call took");
        for (int text = 0; text < 2; text++) {
            int some = text == WOOT ? 2 : 1;
            Page page = new Page();
            for (int site = 0; site < 5; site++) {
                page.insert(text, site, 0, 'a' + site);
            }
            page.share(text, 1, 0, true);
            due("a share() behind an insert()", page.look(text, 0, 6), some);
            page.share(text, 2, 0, false);
            due("a share() behind a share()", page.look(text, 0, 6), 2 * some);
            page.tell(text, 0, 3);
            due("a tell() behind a share()", page.look(text, 0, 6), 3 * some);
            page.share(text, 4, 0, true);
            due("a share() behind a tell()", page.look(text, 0, 6), 4 * some);
            page.insert(text, 0, 0, 'z');
            due("an insert() behind a share()", page.look(text, 0, 6), 0);
        }
    }

    private static void messageAnotherWhat() {
        sentence("Promise 7: NONE for another what");
        for (int text = 0; text < 2; text++) {
            Page page = new Page();
            page.insert(text, 3, 0, 'a');
            page.erase(text, 3, 0);
            for (int k = 0; k < 2; k++) {
                for (int none : new int[] {-1, 6, 7, -2, LEAST, GREATEST}) {
                    due("message " + k + ", what " + none, page.message(text, k, none), NONE);
                }
                due("message " + k + ", what 0", page.message(text, k, 0), k);
                due("message " + k + ", what 5", page.message(text, k, 5), 'a');
            }
        }
    }

    private static void messageAnotherTextOrMessage() {
        sentence("Promise 7: NONE for another text or message");
        for (int text = 0; text < 2; text++) {
            Page page = new Page();
            due("message 0 of none", page.message(text, 0, 0), NONE);
            page.type(text, 0, 0, SIXTY);
            page.share(text, 0, 1, false);
            for (int made = 0; made < 100; made++) {
                page.erase(text, made / 60, 0);
            }
            due("message 0", page.message(text, 0, 2), 0);
            due("message 59", page.message(text, 59, 0), 0);
            due("message 60", page.message(text, 60, 0), 1);
            due("message 159", page.message(text, 159, 0), 1);
            due("message 159's site", page.message(text, 159, 1), 1);
            due("message 159's CHARACTER", page.message(text, 159, 2), 39);
            for (int what = 0; what <= 5; what++) {
                for (int none : new int[] {-1, 160, 161, LEAST, GREATEST}) {
                    due("message " + none + ", what " + what, page.message(text, none, what), NONE);
                }
                for (int none : NO_TEXT) {
                    due("text " + none + ", what " + what, page.message(none, 0, what), NONE);
                }
                due("the other text, what " + what, page.message(1 - text, 0, what), NONE);
            }
        }
    }

    private static void messageOfAnErase() {
        sentence("Promise 7: 2: its CHARACTER's MARK; 3, 4: that one's LEFT, RIGHT MARK; 5: its letter");
        for (int text = 0; text < 2; text++) {
            Page page = new Page();
            page.insert(text, 2, 0, 'a');
            page.share(text, 2, 0, true);
            page.insert(text, 0, 1, 'b');
            page.share(text, 0, 3, true);
            page.insert(text, 3, 1, 'c');
            page.erase(text, 3, 0);
            page.erase(text, 3, 0);
            page.erase(text, 3, 0);
            int[][] due = {
                {0, 2, 200, BEGIN, END, 'a'}, {0, 0, 0, 200, END, 'b'}, {0, 3, 300, 200, 0, 'c'},
                {1, 3, 200, BEGIN, END, 'a'}, {1, 3, 300, 200, 0, 'c'}, {1, 3, 0, 200, END, 'b'}};
            for (int k = 0; k < due.length; k++) {
                for (int what = 0; what <= 5; what++) {
                    due("message " + k + ", what " + what, page.message(text, k, what), due[k][what]);
                }
            }
        }
    }

    private static void stateOfThreeKinds() {
        sentence("Promise 8: Whether message k is DONE (2), WAITS (1), or neither (0) at a site");
        for (int text = 0; text < 2; text++) {
            Page page = new Page();
            page.type(text, 0, 0, "ab");
            page.erase(text, 0, 1);
            int[] neither = {0, 0, 0};
            int[] waits = {0, 1, 1};
            int[] done = {2, 2, 2};
            states(page, text, 0, done);
            states(page, text, 4, neither);
            page.tell(text, 4, 2);
            page.tell(text, 4, 1);
            states(page, text, 4, waits);
            page.tell(text, 4, 0);
            states(page, text, 4, done);
            states(page, text, 3, neither);
        }
    }

    private static void states(Page page, int text, int site, int[] want) {
        for (int k = 0; k < want.length; k++) {
            due("state of " + k + " at site " + site, page.state(text, site, k), want[k]);
        }
    }

    private static void stateNoSuch() {
        sentence("Promise 8: NONE: no such text, site or message");
        for (int text = 0; text < 2; text++) {
            Page page = new Page();
            due("message 0 of none", page.state(text, 0, 0), NONE);
            page.type(text, 0, 0, "ab");
            for (int none : new int[] {-1, 2, 3, 159, 160, 161, LEAST, GREATEST}) {
                due("message " + none, page.state(text, 0, none), NONE);
            }
            due("the other text's message 0", page.state(1 - text, 0, 0), NONE);
            for (int none : NO_TEXT) {
                due("text " + none, page.state(none, 0, 0), NONE);
            }
            for (int none : NO_SITE) {
                due("site " + none, page.state(text, none, 0), NONE);
            }
            due("message 1", page.state(text, 0, 1), 2);
            due("message 1 at site 4", page.state(text, 4, 1), 0);
        }
    }

    private static void characterErasedOnesCount() {
        sentence("Promise 9: Of the CHARACTER at place i of a site's SEQUENCE (erased ones count)");
        for (int text = 0; text < 2; text++) {
            Page page = new Page();
            page.type(text, 1, 0, "abc");
            page.erase(text, 1, 0);
            page.erase(text, 1, 1);
            int[][] due = {{100, 'a', 0, NONE, 3}, {101, 'b', 1, 0, 3}, {102, 'c', 0, 1, 3}};
            for (int i = 0; i < 3; i++) {
                for (int what = 0; what <= 4; what++) {
                    due("place " + i + ", what " + what, page.character(text, 1, i, what), due[i][what]);
                }
            }
            page.tell(text, 2, 0);
            due("seen where the ERASE is not told", page.character(text, 2, 0, 2), 1);
            page.tell(text, 2, 3);
            due("not seen where it is", page.character(text, 2, 0, 2), 0);
        }
    }

    private static void characterAtTheEnds() {
        sentence("Promise 9: the places of its LEFT, RIGHT (NONE for BEGIN, the SEQUENCE's length for END)");
        for (int text = 0; text < 2; text++) {
            Page page = new Page();
            page.insert(text, 0, 0, 'b');
            due("LEFT is BEGIN", page.character(text, 0, 0, 3), NONE);
            due("RIGHT is END", page.character(text, 0, 0, 4), 1);
            page.insert(text, 0, 1, 'd');
            page.insert(text, 0, 0, 'a');
            page.insert(text, 0, 2, 'c');
            // a (BEGIN, b), b (BEGIN, END), c (b, d), d (b, END)
            int[] lefts = {NONE, NONE, 1, 1};
            int[] rights = {1, 4, 3, 4};
            for (int i = 0; i < 4; i++) {
                due("LEFT of place " + i, page.character(text, 0, i, 3), lefts[i]);
                due("RIGHT of place " + i, page.character(text, 0, i, 4), rights[i]);
            }
            page.erase(text, 0, 1);
            due("LEFT is erased", page.character(text, 0, 2, 3), 1);
            page.tell(text, 1, 0);
            page.tell(text, 1, 1);
            due("END's place in a shorter SEQUENCE", page.character(text, 1, 0, 4), 2);
            due("LEFT's place there", page.character(text, 1, 1, 3), 0);
        }
        Page full = new Page();
        full.type(YATA, 0, 0, SIXTY);
        due("END's place in the longest SEQUENCE", full.character(YATA, 0, 59, 4), 60);
        due("LEFT's place there", full.character(YATA, 0, 59, 3), 58);
    }

    private static void characterAnotherWhat() {
        sentence("Promise 9: NONE for another what");
        for (int text = 0; text < 2; text++) {
            Page page = new Page();
            page.type(text, 0, 0, "ab");
            for (int none : new int[] {-1, 5, 6, -2, LEAST, GREATEST}) {
                due("what " + none, page.character(text, 0, 1, none), NONE);
            }
            due("what 0", page.character(text, 0, 1, 0), 1);
            due("what 4", page.character(text, 0, 1, 4), 2);
        }
    }

    private static void characterNoneSuch() {
        sentence("Promise 9: NONE if there is none such");
        for (int text = 0; text < 2; text++) {
            Page page = new Page();
            page.type(text, 0, 0, "ab");
            page.tell(text, 1, 0);
            for (int what = 0; what <= 4; what++) {
                due("an empty copy", page.character(text, 4, 0, what), NONE);
                due("the shorter copy, place 1", page.character(text, 1, 1, what), NONE);
                for (int none : new int[] {-1, 2, 3, 59, 60, LEAST, GREATEST}) {
                    due("place " + none + ", what " + what, page.character(text, 0, none, what), NONE);
                }
                for (int none : NO_TEXT) {
                    due("text " + none + ", what " + what, page.character(none, 0, 0, what), NONE);
                }
                for (int none : NO_SITE) {
                    due("site " + none + ", what " + what, page.character(text, none, 0, what), NONE);
                }
            }
            due("place 0", page.character(text, 0, 0, 1), 'a');
            due("place 1", page.character(text, 0, 1, 1), 'b');
            page.type(1 - text, 4, 0, SIXTY);
            due("place 59", page.character(1 - text, 4, 59, 1), '7');
            due("place 60", page.character(1 - text, 4, 60, 1), NONE);
        }
    }

    private static void writeTheSeenLetters() {
        sentence("Promise 10: The seen letters of a copy are OUT: how many");
        for (int text = 0; text < 2; text++) {
            Page page = new Page();
            page.type(text, 0, 0, "abcd");
            due("four", page.write(text, 0), 4);
            due("OUT", page.allOut(), "abcd");
            page.erase(text, 0, 0);
            page.erase(text, 0, 2);
            due("two are seen", page.write(text, 0), 2);
            due("OUT of two", page.allOut(), "bc");
            due("nothing of the longer one is left", page.out(2), NONE);
            page.erase(text, 0, 0);
            page.erase(text, 0, 0);
            due("none is seen", page.write(text, 0), 0);
            due("OUT of none", page.out(0), NONE);
            page.insert(text, 0, 0, 'e');
            page.write(text, 0);
            due("OUT of one", page.allOut(), "e");
            page.tell(text, 1, 1);
            due("what WAITS is not written", page.write(text, 1), 0);
            due("OUT of an empty copy", page.out(0), NONE);
        }
    }

    private static void writeFull() {
        sentence("Promise 10: The seen letters of a copy are OUT: how many");
        for (int text = 0; text < 2; text++) {
            Page page = new Page();
            page.type(text, 0, 0, SIXTY);
            due("sixty", page.write(text, 0), 60);
            due("OUT", page.allOut(), SIXTY);
            due("byte 59", page.out(59), '7');
            due("byte 60", page.out(60), NONE);
        }
    }

    private static void writeOutStays() {
        sentence("Promise 10: NONE, and OUT stays: no such text or site");
        for (int text = 0; text < 2; text++) {
            Page page = new Page();
            page.type(text, 0, 0, "abc");
            page.insert(text, 4, 0, 'z');
            page.write(text, 0);
            for (int none : NO_TEXT) {
                due("text " + none, page.write(none, 0), NONE);
                due("OUT behind text " + none, page.allOut(), "abc");
            }
            for (int none : NO_SITE) {
                due("site " + none, page.write(text, none), NONE);
                due("OUT behind site " + none, page.allOut(), "abc");
            }
            page.erase(text, 0, 0);
            page.insert(text, 0, 0, 'x');
            due("OUT till the next write()", page.allOut(), "abc");
            due("site 4", page.write(text, 4), 1);
            due("OUT of site 4", page.allOut(), "z");
            due("the other text", page.write(1 - text, 0), 0);
            due("OUT of the other text", page.out(0), NONE);
        }
    }

    private static void outNone() {
        sentence("Promise 11: Byte i of OUT; NONE if there is none");
        for (int text = 0; text < 2; text++) {
            Page page = new Page();
            page.type(text, 0, 0, "abc");
            page.write(text, 0);
            due("byte 0", page.out(0), 'a');
            due("byte 2", page.out(2), 'c');
            for (int none : new int[] {-1, 3, 4, 59, 60, 61, LEAST, GREATEST}) {
                due("byte " + none, page.out(none), NONE);
            }
            page.write(text, 1);
            due("byte 0 of none", page.out(0), NONE);
            due("byte -1 of none", page.out(-1), NONE);
        }
    }

    private static void sameSequence() {
        sentence("Promise 12: Whether two sites have the same SEQUENCE");
        for (int text = 0; text < 2; text++) {
            Page page = new Page();
            due("empty ones", page.same(text, 0, 4), true);
            due("an empty one and itself", page.same(text, 2, 2), true);
            page.type(text, 0, 0, "ab");
            due("an empty one and another", page.same(text, 0, 1), false);
            due("the other way", page.same(text, 1, 0), false);
            page.tell(text, 1, 0);
            due("a shorter one", page.same(text, 0, 1), false);
            due("a longer one", page.same(text, 1, 0), false);
            page.tell(text, 1, 1);
            due("the same", page.same(text, 0, 1), true);
            page.type(text, 2, 0, "ab");
            due("the same letters of another site", page.same(text, 0, 2), false);
            page.insert(text, 3, 0, 'a');
            page.insert(text, 4, 0, 'a');
            page.erase(text, 3, 0);
            page.erase(text, 4, 0);
            due("the same letter of another site, both erased", page.same(text, 3, 4), false);
            page.share(text, 3, 4, true);
            page.share(text, 4, 3, true);
            due("both letters at both", page.same(text, 3, 4), true);
            page.tell(text, 3, 1);
            due("one that WAITS is not in it", page.look(text, 3, 5), 1);
            due("nor asked for", page.same(text, 3, 4), true);
            due("the other text", page.same(1 - text, 0, 1), true);
        }
    }

    private static void sameErased() {
        sentence("Promise 12: the same ones of it erased");
        for (int text = 0; text < 2; text++) {
            Page page = new Page();
            page.type(text, 0, 0, "aab");
            page.share(text, 0, 1, true);
            page.erase(text, 0, 0);
            due("one is erased", page.same(text, 0, 1), false);
            due("the other way", page.same(text, 1, 0), false);
            page.erase(text, 1, 1);
            due("another one is erased, the seen letters are the same", page.same(text, 0, 1), false);
            page.erase(text, 1, 0);
            page.erase(text, 0, 0);
            due("the same ones, each by its own ERASE", page.same(text, 0, 1), true);
            page.erase(text, 0, 0);
            due("the last one is erased", page.same(text, 0, 1), false);
            page.erase(text, 1, 0);
            due("all are erased", page.same(text, 0, 1), true);
            due("all erased is not empty", page.same(text, 0, 2), false);
        }
    }

    private static void sameFalseToo() {
        sentence("Promise 12: False, too, for no such text or site");
        for (int text = 0; text < 2; text++) {
            Page page = new Page();
            for (int none : NO_TEXT) {
                due("text " + none, page.same(none, 0, 0), false);
                due("text " + none + ", two sites", page.same(none, 0, 1), false);
            }
            for (int none : NO_SITE) {
                due("a " + none, page.same(text, none, 0), false);
                due("b " + none, page.same(text, 0, none), false);
                due("both " + none, page.same(text, none, none), false);
            }
            due("a -1, b 5", page.same(text, -1, 5), false);
            due("sites 0 and 4", page.same(text, 0, 4), true);
        }
    }

    private static void shuffleEmptyAndFull() {
        sentence("Promise 13: as long as some are left");
        for (int text = 0; text < 2; text++) {
            Page page = new Page();
            due("none is DONE", page.shuffle(text, 0, 7), true);
            page.insert(text, 0, 0, SIXTY.charAt(0));
            due("one is DONE", page.shuffle(text, 0, 7), true);
            page.type(text, 0, 1, SIXTY.substring(1));
            page.share(text, 0, 1, true);
            for (int made = 0; made < 99; made++) {
                page.erase(text, made % 2, 0);
            }
            // No other ERASE erases the last letter, so none of the 160 may be left out.
            due("the last ERASE", page.erase(text, 1, 10), 159);
            page.share(text, 1, 0, true);
            due("160 are DONE", page.look(text, 0, 4), 160);
            page.write(text, 0);
            String before = everything(page);
            for (int seed : SEEDS) {
                due("160, seed " + seed, page.shuffle(text, 0, seed), true);
                due("110, seed " + seed, page.shuffle(text, 1, seed), true);
                due("none, seed " + seed, page.shuffle(text, 2, seed), true);
            }
            due("nothing is changed", everything(page), before);
            due("OUT", page.allOut(), SIXTY.substring(50, 59));
        }
    }

    private static void shuffleSeedWraps() {
        sentence("Promise 13: seed becomes seed * 1103515245 + 12345 (an int, it wraps)");
        for (int text = 0; text < 2; text++) {
            Page page = new Page();
            for (int made = 0; made < 30; made++) {
                int site = made % 5;
                page.insert(text, site, made / 10, 'a' + made % 26);
                page.share(text, site, (site + 1) % 5, made % 2 == 0);
                if (made % 4 == 3) {
                    page.erase(text, site, 0);
                }
            }
            for (int seed : SEEDS) {
                for (int site = 0; site < 5; site++) {
                    due("seed " + seed + ", site " + site, page.shuffle(text, site, seed), true);
                }
            }
            for (int seed = -100; seed < 100; seed++) {
                due("seed " + seed, page.shuffle(text, 4, seed * 21474837), true);
            }
        }
    }

    private static void shuffleOnlyWhatIsDone() {
        sentence("Promise 13: A copy is built of what is DONE at a site. And none WAITS");
        for (int text = 0; text < 2; text++) {
            Page page = new Page();
            page.type(text, 0, 0, "abc");
            page.erase(text, 0, 2);
            page.tell(text, 1, 2);
            page.tell(text, 1, 3);
            due("two WAIT, none is DONE", page.shuffle(text, 1, 3), true);
            page.tell(text, 1, 0);
            due("two WAIT, one is DONE", page.shuffle(text, 1, 3), true);
            due("they still WAIT", page.look(text, 1, 5), 2);
            due("all are DONE", page.shuffle(text, 0, 3), true);
            page.tell(text, 2, 0);
            due("others behind that", page.shuffle(text, 2, 3), true);
            page.tell(text, 1, 1);
            due("what WAITED is DONE", page.shuffle(text, 1, 3), true);
        }
    }

    private static void shuffleFalseToo() {
        sentence("Promise 13: False, too, for no such text or site");
        for (int text = 0; text < 2; text++) {
            Page page = new Page();
            page.insert(text, 0, 0, 'a');
            for (int seed : SEEDS) {
                for (int none : NO_TEXT) {
                    due("text " + none, page.shuffle(none, 0, seed), false);
                }
                for (int none : NO_SITE) {
                    due("site " + none, page.shuffle(text, none, seed), false);
                }
                due("site 0", page.shuffle(text, 0, seed), true);
                due("site 4", page.shuffle(text, 4, seed), true);
            }
        }
    }

    private static void ordersOfNone() {
        sentence("Promise 14: How many FREE orders there are of the CHARACTERS in a copy");
        for (int text = 0; text < 2; text++) {
            Page page = new Page();
            due("of none", page.orders(text, 0), 1);
            page.insert(text, 0, 0, 'a');
            due("of one", page.orders(text, 0), 1);
            page.insert(text, 1, 0, 'b');
            due("what the copy lacks does not count", page.orders(text, 0), 1);
            page.tell(text, 0, 1);
            due("of two", page.orders(text, 0), 2);
            page.type(text, 2, 0, "cd");
            page.tell(text, 0, 3);
            due("what WAITS does not count", page.orders(text, 0), 2);
            page.tell(text, 0, 2);
            due("of four, two of them bound", page.orders(text, 0), 12);
            due("of none at another site", page.orders(text, 4), 1);
        }
    }

    private static void ordersOfMoreThan12() {
        sentence("Promise 14: NONE: more than 12 in the SEQUENCE");
        for (int text = 0; text < 2; text++) {
            Page page = new Page();
            // Chains of three at four sites: 12! over the four 3!, and one more chain of one.
            for (int site = 0; site < 4; site++) {
                page.type(text, site, 0, "abc");
            }
            page.insert(text, 4, 0, 'z');
            for (int from = 0; from < 4; from++) {
                page.share(text, from, 0, true);
            }
            due("12 in the SEQUENCE", page.look(text, 0, 2), 12);
            due("13 made", page.look(text, 0, 1), 13);
            due("orders of 12", page.orders(text, 0), 479001600L / (6 * 6 * 6 * 6));
            due("number of 12", page.number(text, 0), 0);
            page.share(text, 4, 0, true);
            due("13 in the SEQUENCE", page.look(text, 0, 2), 13);
            due("orders of 13", page.orders(text, 0), NONE);
            due("number of 13", page.number(text, 0), NONE);
            due("orders of 3", page.orders(text, 1), 1);
        }
        Page page = new Page();
        page.type(YATA, 0, 0, SIXTY);
        due("orders of 60", page.orders(YATA, 0), NONE);
        due("number of 60", page.number(YATA, 0), NONE);
    }

    private static void ordersErasedOnesCount() {
        sentence("Promise 14: more than 12 in the SEQUENCE (erased ones count)");
        Page page = new Page();
        for (int n = 0; n < 12; n++) {
            page.insert(WOOT, 0, 0, 'a');
            page.erase(WOOT, 0, 0);
        }
        due("12, none of them seen, none of them bound", page.orders(WOOT, 0), 479001600L);
        due("they stand by their MARKS", page.number(WOOT, 0), 0);
        page.insert(WOOT, 0, 0, 'a');
        due("13, one of them seen", page.orders(WOOT, 0), NONE);
        page.erase(WOOT, 0, 0);
        due("13, none of them seen", page.orders(WOOT, 0), NONE);
        due("number of 13", page.number(WOOT, 0), NONE);
        page.type(YATA, 0, 0, "abcdefghijklm");
        for (int n = 0; n < 13; n++) {
            page.erase(YATA, 0, 0);
        }
        due("13 in a chain, none of them seen", page.orders(YATA, 0), NONE);
    }

    private static void ordersNoSuch() {
        sentence("Promise 14: NONE: no such text or site");
        for (int text = 0; text < 2; text++) {
            Page page = new Page();
            page.insert(text, 0, 0, 'a');
            for (int none : NO_TEXT) {
                due("text " + none, page.orders(none, 0), NONE);
            }
            for (int none : NO_SITE) {
                due("site " + none, page.orders(text, none), NONE);
            }
            due("site 0", page.orders(text, 0), 1);
            due("site 4", page.orders(text, 4), 1);
        }
    }

    private static void numberFrom0On() {
        sentence("Promise 15: Which of the FREE orders the SEQUENCE is, from 0 on");
        for (int text = 0; text < 2; text++) {
            Page page = new Page();
            due("of none", page.number(text, 0), 0);
            page.insert(text, 0, 0, 'a');
            due("of one", page.number(text, 0), 0);
            page.insert(text, 2, 0, 'b');
            page.tell(text, 2, 0);
            due("the first of two", page.number(text, 2), 0);
            page.insert(text, 2, 0, 'c');
            due("the SEQUENCE", page.sequence(text, 2), "cab");
            // c stands ahead of a: bca, cab, cba by the MARKS 0, 200, 201 of a, b, c.
            due("the second of three", page.number(text, 2), 1);
            due("three", page.orders(text, 2), 3);
        }
        Page last = new Page();
        last.insert(YATA, 0, 0, 'a');
        last.insert(YATA, 2, 0, 'b');
        last.tell(YATA, 3, 0);
        last.tell(YATA, 3, 1);
        last.insert(YATA, 3, 1, 'c');
        last.tell(YATA, 4, 0);
        last.insert(YATA, 4, 1, 'd');
        last.share(YATA, 3, 4, false);
        last.insert(YATA, 4, 2, 'e');
        due("the SEQUENCE at site 4", last.sequence(YATA, 4), "acedb");
        // a, c, e, d follow one another and b follows c: acbed, acebd, acedb; b's MARK is below d's, e's.
        due("three at site 4", last.orders(YATA, 4), 3);
        due("the last of three", last.number(YATA, 4), 2);
    }

    private static void numberAtTheFirstUnlikePlace() {
        sentence("Promise 15: orders are compared at the first place where they are unlike, the lesser MARK first");
        for (int text = 0; text < 2; text++) {
            Page page = new Page();
            page.insert(text, 1, 0, 'p');
            page.share(text, 1, 4, true);
            page.insert(text, 4, 0, 'q');
            page.insert(text, 2, 0, 'c');
            page.insert(text, 3, 0, 'd');
            page.share(text, 2, 4, true);
            page.share(text, 3, 4, true);
            due("the SEQUENCE", page.sequence(text, 4), "qpcd");
            // q (400) ahead of p (100); c is 200, d 300: those that begin with c (3) or d (3) come first.
            due("12 orders", page.orders(text, 4), 12);
            due("number", page.number(text, 4), 6);
            page.insert(text, 0, 0, 'z');
            page.share(text, 0, 4, true);
            due("the SEQUENCE with z", page.sequence(text, 4), "zqpcd");
            due("60 orders", page.orders(text, 4), 60);
            due("the least MARK of all comes first", page.number(text, 4), 6);
        }
    }

    private static void numberNoneAsInOrders() {
        sentence("Promise 15: NONE as in orders()");
        for (int text = 0; text < 2; text++) {
            Page page = new Page();
            page.insert(text, 0, 0, 'a');
            for (int none : NO_TEXT) {
                due("text " + none, page.number(none, 0), NONE);
            }
            for (int none : NO_SITE) {
                due("site " + none, page.number(text, none), NONE);
            }
            due("site 0", page.number(text, 0), 0);
            due("site 4", page.number(text, 4), 0);
            page.type(text, 0, 1, "bcdefghijkl");
            due("12", page.number(text, 0), 0);
            page.insert(text, 0, 12, 'm');
            due("13", page.number(text, 0), NONE);
            due("orders of 13", page.orders(text, 0), NONE);
        }
    }
}
