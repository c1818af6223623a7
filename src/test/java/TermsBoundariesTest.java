/**
 * The boundary cases that the document's 'Terms' name, a method for each sentence: both sides of the
 * boundary where it has two.
 */
public final class TermsBoundariesTest extends Checks {
    private static final int NONE = SharedPage.NONE;
    private static final int WOOT = 0;
    private static final int YATA = 1;
    private static final int BEGIN = -1;
    private static final int END = 9999;
    private static final int LEAST = Integer.MIN_VALUE;
    private static final int GREATEST = Integer.MAX_VALUE;
    private static final String SIXTY = "abcdefghijklmnopqrstuvwxyzABCDEFGHIJKLMNOPQRSTUVWXYZ01234567";

    public static void main(String[] args) {
        all512CallsAreAnswered();
        textsAre0And1();
        sitesAre0To4();
        textAndSiteTogether();
        atFirstNone();
        clockCountsWhatTheSiteMade();
        letterIs32To126();
        atMost60AreMade();
        atMost60AreMadeBySitesTogether();
        markIsComparedAsANumber();
        marksOfBeginAndEnd();
        messagesAreNumberedFrom0();
        atMost100Erases();
        erasesOfTheSameOneCountEach();
        madeIsDoneAtOnce();
        toldWhatIsDone();
        toldWhatWaits();
        insertNeedsItsLeft();
        insertNeedsItsRight();
        insertNeedsBoth();
        insertNeedsNoSeenNeighbour();
        eraseNeedsItsCharacter();
        erasedAlsoIfItIsAlready();
        leastNumberFirst();
        tillNoneCan();
        as159Wait();
        insertPlaces();
        insertPlacesOfTheCopy();
        insertBetweenTheSeenOnes();
        insertWhereNoneIsSeen();
        wootWithNoneBetween();
        wootRowByLeft();
        wootRowByRight();
        wootRowByMark();
        wootLooks();
        wootWith59Between();
        yataWithNoneBetween();
        yataWith59Between();
        yataSameLeftLesserSite();
        yataSameLeftGreaterSite();
        yataLeftPassed();
        yataLeftNotPassed();
        yataBehindItsLeftAndAheadOfItsRight();
        freeIsNotBoundByBeginOrEnd();
        freeIsBoundByLeftAndRight();
        end();
    }

    /** Calls that change nothing, till so many are left. */
    private static void spend(Page page, int remaining) {
        while (page.remaining() > remaining) {
            page.look(WOOT, 0, 0);
        }
    }

    private static Page nearlySpent() {
        Page page = new Page();
        page.type(WOOT, 0, 0, "ab");
        page.write(WOOT, 0);
        spend(page, 1);
        return page;
    }

    private static void all512CallsAreAnswered() {
        sentence("An object is used for at most 512 calls after it has been made");
        due("insert()", nearlySpent().insert(WOOT, 0, 2, 'c'), 2);
        due("erase()", nearlySpent().erase(WOOT, 0, 1), 2);
        due("tell()", nearlySpent().tell(WOOT, 1, 0), 1);
        due("share()", nearlySpent().share(WOOT, 0, 1, true), 2);
        due("look()", nearlySpent().look(WOOT, 0, 4), 2);
        due("message()", nearlySpent().message(WOOT, 1, 5), 'b');
        due("state()", nearlySpent().state(WOOT, 0, 1), 2);
        due("character()", nearlySpent().character(WOOT, 0, 1, 1), 'b');
        due("write()", nearlySpent().write(WOOT, 0), 2);
        due("out()", nearlySpent().out(1), 'b');
        due("same()", nearlySpent().same(WOOT, 1, 2), true);
        due("shuffle()", nearlySpent().shuffle(WOOT, 0, 1), true);
        due("orders()", nearlySpent().orders(WOOT, 0), 1);
        due("number()", nearlySpent().number(WOOT, 0), 0);

        Page full = new Page();
        for (int text = 0; text < 2; text++) {
            full.type(text, 0, 0, SIXTY);
            full.share(text, 0, 1, true);
            for (int made = 0; made < 100; made++) {
                full.erase(text, made % 2, 0);
            }
            full.share(text, 0, 2, true);
            full.share(text, 1, 2, false);
        }
        spend(full, 2);
        due("share() of a full text", full.share(WOOT, 2, 3, true), 160);
        due("shuffle() of a full text", full.shuffle(YATA, 2, 5), true);
    }

    /** A page where each text has two letters at site 0, and OUT is "x". */
    private static Page twoLetters() {
        Page page = new Page();
        for (int text = 0; text < 2; text++) {
            page.type(text, 0, 0, "ab");
        }
        page.insert(WOOT, 3, 0, 'x');
        page.write(WOOT, 3);
        return page;
    }

    /** Every call for a text and a site that there are not. */
    private static void allRefused(Page page, String of, int text, int site) {
        due("insert, " + of, page.insert(text, site, 0, 'a'), NONE);
        due("erase, " + of, page.erase(text, site, 0), NONE);
        due("tell, " + of, page.tell(text, site, 0), NONE);
        due("share from, " + of, page.share(text, site, 0, true), NONE);
        due("share to, " + of, page.share(text, 0, site, false), NONE);
        due("share with itself, " + of, page.share(text, site, site, false), NONE);
        due("look 2, " + of, page.look(text, site, 2), NONE);
        due("look 6, " + of, page.look(text, site, 6), NONE);
        due("state, " + of, page.state(text, site, 0), NONE);
        due("character, " + of, page.character(text, site, 0, 0), NONE);
        due("write, " + of, page.write(text, site), NONE);
        due("same a, " + of, page.same(text, site, 0), false);
        due("same b, " + of, page.same(text, 0, site), false);
        due("same as itself, " + of, page.same(text, site, site), false);
        due("shuffle, " + of, page.shuffle(text, site, 1), false);
        due("orders, " + of, page.orders(text, site), NONE);
        due("number, " + of, page.number(text, site), NONE);
    }

    /** Every call for a text and a site that there are, the site with no letters yet. */
    private static void allAnswered(String of, int text, int site) {
        Page page = twoLetters();
        due("look, " + of, page.look(text, site, 2), 0);
        due("state, " + of, page.state(text, site, 0), 0);
        due("tell, " + of, page.tell(text, site, 0), 1);
        due("share, " + of, page.share(text, 0, site, false), 1);
        due("character, " + of, page.character(text, site, 1, 1), 'b');
        due("write, " + of, page.write(text, site), 2);
        due("out, " + of, page.out(1), 'b');
        due("same a, " + of, page.same(text, site, 0), true);
        due("same b, " + of, page.same(text, 0, site), true);
        due("shuffle, " + of, page.shuffle(text, site, 1), true);
        due("orders, " + of, page.orders(text, site), 1);
        due("number, " + of, page.number(text, site), 0);
        int messages = page.look(text, site, 0);
        due("insert, " + of, page.insert(text, site, 0, 'c'), messages);
        due("message, " + of, page.message(text, messages, 1), site);
        due("erase, " + of, page.erase(text, site, 0), messages + 1);
        due("share from, " + of, page.share(text, site, 0, true), 2);
    }

    private static void textsAre0And1() {
        sentence("TEXTS 0 (WOOT) and 1 (YATA)");
        allAnswered("text 0", 0, 1);
        allAnswered("text 1", 1, 1);
        for (int none : new int[] {-1, 2, 3, LEAST, GREATEST}) {
            Page page = twoLetters();
            String before = page.looks(WOOT) + page.looks(YATA);
            allRefused(page, "text " + none, none, 0);
            due("look 0, text " + none, page.look(none, 0, 0), NONE);
            due("look 1, text " + none, page.look(none, 0, 1), NONE);
            due("message, text " + none, page.message(none, 0, 0), NONE);
            due("OUT behind text " + none, page.allOut(), "x");
            due("the texts behind text " + none, page.looks(WOOT) + page.looks(YATA), before);
        }
    }

    private static void sitesAre0To4() {
        sentence("SITES 0 .. 4");
        for (int text = 0; text < 2; text++) {
            allAnswered("site 4", text, 4);
            Page least = new Page();
            due("insert, site 0", least.insert(text, 0, 0, 'a'), 0);
            due("erase, site 0", least.erase(text, 0, 0), 1);
            due("tell, site 0", least.tell(text, 0, 0), 0);
            for (int none : new int[] {-1, 5, 6, LEAST, GREATEST}) {
                Page page = twoLetters();
                String before = page.looks(WOOT) + page.looks(YATA);
                allRefused(page, "site " + none, text, none);
                due("OUT behind site " + none, page.allOut(), "x");
                due("the texts behind site " + none, page.looks(WOOT) + page.looks(YATA), before);
            }
        }
    }

    /** Numbers that would meet a copy if text and site were made one number. */
    private static void textAndSiteTogether() {
        sentence("TEXTS 0 and 1; SITES 0 .. 4");
        int[][] pairs = {{-1, 5}, {-1, 9}, {2, -5}, {2, -1}, {1, -1}, {0, 5}, {1, -5}, {0, 9}};
        for (int[] pair : pairs) {
            Page page = twoLetters();
            String before = page.looks(WOOT) + page.looks(YATA);
            allRefused(page, "text " + pair[0] + ", site " + pair[1], pair[0], pair[1]);
            due("the texts", page.looks(WOOT) + page.looks(YATA), before);
        }
    }

    private static void atFirstNone() {
        sentence("a SEQUENCE of CHARACTERS, at first none, between BEGIN and END");
        for (int text = 0; text < 2; text++) {
            Page page = new Page();
            for (int site = 0; site < 5; site++) {
                due("length", page.look(text, site, 2), 0);
                due("character at 0", page.character(text, site, 0, 0), NONE);
            }
            page.insert(text, 2, 0, 'a');
            due("length with one", page.look(text, 2, 2), 1);
            due("LEFT", page.character(text, 2, 0, 3), NONE);
            due("RIGHT", page.character(text, 2, 0, 4), 1);
            due("length elsewhere", page.look(text, 3, 2), 0);
        }
    }

    private static void clockCountsWhatTheSiteMade() {
        sentence("a CLOCK (0, 1, .. : how many that site made in this text ahead of it)");
        for (int text = 0; text < 2; text++) {
            Page page = new Page();
            page.insert(text, 3, 0, 'a');
            due("the first", page.message(text, 0, 2), 300);
            page.insert(text, 3, 5, 'x');
            page.insert(text, 3, 0, 31);
            page.insert(1 - text, 3, 0, 'x');
            page.insert(text, 1, 0, 'b');
            due("another site's first", page.message(text, 1, 2), 100);
            page.erase(text, 3, 0);
            page.share(text, 1, 3, true);
            page.insert(text, 3, 0, 'c');
            due("the second, behind refused ones, an ERASE, another site's", page.message(text, 3, 2), 301);
            due("the other text's first", page.message(1 - text, 0, 2), 300);
            page.insert(text, 3, 0, 'd');
            due("the third", page.message(text, 4, 2), 302);
        }
        Page page = new Page();
        page.type(YATA, 4, 0, SIXTY);
        due("the 60th of one site", page.message(YATA, 59, 2), 459);
        due("the 60th in the copy", page.character(YATA, 4, 59, 0), 459);
    }

    private static void letterIs32To126() {
        sentence("a letter (a byte 32 .. 126)");
        for (int text = 0; text < 2; text++) {
            Page low = new Page();
            Page high = new Page();
            for (int n = 0; n < 60; n++) {
                due("letter " + (32 + n), low.insert(text, 0, n, 32 + n), n);
                due("its message", low.message(text, n, 5), 32 + n);
                due("letter " + (67 + n), high.insert(text, 0, n, 67 + n), n);
                due("its place", high.character(text, 0, n, 1), 67 + n);
            }
            due("the least is written", low.write(text, 0), 60);
            due("the least is OUT", low.out(0), 32);
            due("the greatest is written", high.write(text, 0), 60);
            due("the greatest is OUT", high.out(59), 126);

            Page page = new Page();
            String before = page.looks(text);
            for (int letter : new int[] {31, 127, 0, 10, -1, 128, 255, 'a' + 256, 'a' - 256, 'a' + 65536, LEAST,
                GREATEST}) {
                due("letter " + letter, page.insert(text, 0, 0, letter), NONE);
            }
            due("nothing is done", page.looks(text), before);
            due("the next number", page.insert(text, 0, 0, 32), 0);
        }
    }

    private static void atMost60AreMade() {
        sentence("At most 60 are made in a text");
        for (int text = 0; text < 2; text++) {
            Page page = new Page();
            page.type(text, 2, 0, SIXTY.substring(0, 59));
            page.insert(text, 2, 60, 'x');
            page.insert(text, 2, 0, 127);
            due("59 were made", page.look(text, 2, 1), 59);
            due("the 60th", page.insert(text, 2, 59, '7'), 59);
            String before = page.looks(text);
            due("the 61st ahead", page.insert(text, 2, 0, 'x'), NONE);
            due("the 61st behind", page.insert(text, 2, 60, 'x'), NONE);
            due("the 61st of another site", page.insert(text, 4, 0, 'x'), NONE);
            due("nothing is done", page.looks(text), before);
            due("the last one", page.character(text, 2, 59, 1), '7');
            due("an ERASE goes", page.erase(text, 2, 0), 60);
            due("an erased one was made", page.insert(text, 2, 0, 'x'), NONE);
            due("the other text", page.insert(1 - text, 2, 0, 'x'), 0);
            due("60 are told", page.share(text, 2, 0, true), 61);
            due("a full copy", page.look(text, 0, 2), 60);
        }
    }

    private static void atMost60AreMadeBySitesTogether() {
        sentence("At most 60 are made in a text");
        for (int text = 0; text < 2; text++) {
            Page page = new Page();
            for (int made = 0; made < 60; made++) {
                due("number", page.insert(text, made % 5, made / 5, 'a' + made % 5), made);
            }
            for (int site = 0; site < 5; site++) {
                due("the 61st at site " + site, page.insert(text, site, 12, 'x'), NONE);
                due("12 in its copy", page.look(text, site, 2), 12);
            }
            due("60 were made", page.look(text, 0, 1), 60);
            for (int from = 1; from < 5; from++) {
                due("12 come from site " + from, page.share(text, from, 0, from % 2 == 0), 12);
            }
            due("60 in one copy", page.look(text, 0, 2), 60);
            due("60 are seen", page.write(text, 0), 60);
            due("the copy of 60 is built anew", page.shuffle(text, 0, 11), true);
        }
    }

    private static void markIsComparedAsANumber() {
        sentence("one MARK is below another one as a number");
        Page page = new Page();
        page.insert(WOOT, 1, 0, 'z');
        // What stands alone between BEGIN and END each time: all of them are in one ROW.
        for (int n = 0; n < 59; n++) {
            page.insert(WOOT, 0, 0, 'a');
            page.erase(WOOT, 0, 0);
        }
        page.tell(WOOT, 0, 0);
        for (int n = 0; n < 59; n++) {
            due("MARK at place " + n, page.character(WOOT, 0, n, 0), n);
        }
        due("100 stands behind 58", page.character(WOOT, 0, 59, 0), 100);
    }

    private static void marksOfBeginAndEnd() {
        sentence("BEGIN's is -1, END's 9999");
        for (int text = 0; text < 2; text++) {
            Page page = new Page();
            page.type(text, 0, 0, "ac");
            page.insert(text, 0, 1, 'b');
            due("LEFT of the first", page.message(text, 0, 3), -1);
            due("RIGHT of the first", page.message(text, 0, 4), 9999);
            due("LEFT of the last", page.message(text, 1, 3), 0);
            due("RIGHT of the last", page.message(text, 1, 4), 9999);
            due("LEFT of one between", page.message(text, 2, 3), 0);
            due("RIGHT of one between", page.message(text, 2, 4), 1);
            page.insert(text, 0, 0, 'z');
            due("LEFT of one ahead", page.message(text, 3, 3), -1);
            due("RIGHT of one ahead", page.message(text, 3, 4), 0);
        }
    }

    private static void messagesAreNumberedFrom0() {
        sentence("MESSAGES of a text are numbered 0, 1, .. as they are made");
        for (int text = 0; text < 2; text++) {
            Page page = new Page();
            due("an INSERT", page.insert(text, 4, 0, 'a'), 0);
            due("refused", page.insert(text, 4, 2, 'a'), NONE);
            due("the other text's", page.insert(1 - text, 4, 0, 'a'), 0);
            due("an ERASE", page.erase(text, 4, 0), 1);
            due("refused, too", page.erase(text, 4, 0), NONE);
            due("another site's", page.insert(text, 0, 0, 'b'), 2);
            due("told", page.share(text, 4, 0, true), 2);
            due("behind what was told", page.insert(text, 0, 0, 'c'), 3);
            due("how many", page.look(text, 2, 0), 4);
        }
    }

    /** A full text: 60 CHARACTERS at sites 0 and 1, the ERASES 60 of site 0 and so many of site 1. */
    private static Page withErases(int text, int ofSite1) {
        Page page = new Page();
        page.type(text, 0, 0, SIXTY);
        page.share(text, 0, 1, false);
        for (int made = 0; made < 60; made++) {
            page.erase(text, 0, 0);
        }
        for (int made = 0; made < ofSite1; made++) {
            page.erase(text, 1, 0);
        }
        return page;
    }

    private static void atMost100Erases() {
        sentence("an ERASE of one (at most 100 ERASES)");
        for (int text = 0; text < 2; text++) {
            Page page = withErases(text, 39);
            page.erase(text, 1, 21);
            page.erase(text, 1, -1);
            due("99 were made", page.look(text, 1, 0), 159);
            due("the 100th", page.erase(text, 1, 20), 159);
            due("20 are seen", page.look(text, 1, 3), 20);
            String before = page.looks(text);
            due("the 101st", page.erase(text, 1, 0), NONE);
            due("the 101st, the last place", page.erase(text, 1, 19), NONE);
            due("nothing is done", page.looks(text), before);
            page.tell(text, 3, 0);
            due("the 101st of another site", page.erase(text, 3, 0), NONE);
            due("it is still seen", page.look(text, 3, 3), 1);
            page.insert(1 - text, 0, 0, 'a');
            due("the other text", page.erase(1 - text, 0, 0), 1);
            due("messages", page.look(text, 1, 0), 160);
            due("the 100th is DONE", page.state(text, 1, 159), 2);
            due("the 100th's CHARACTER", page.message(text, 159, 2), 59);
        }
    }

    private static void erasesOfTheSameOneCountEach() {
        sentence("an ERASE of one (at most 100 ERASES)");
        for (int text = 0; text < 2; text++) {
            Page page = new Page();
            page.type(text, 0, 0, SIXTY.substring(0, 20));
            for (int site = 1; site < 5; site++) {
                page.share(text, 0, site, site % 2 == 0);
            }
            for (int made = 0; made < 100; made++) {
                due("ERASE " + made, page.erase(text, made / 20, 0), 20 + made);
            }
            due("one more CHARACTER", page.insert(text, 4, 0, 'z'), 120);
            due("the 101st ERASE", page.erase(text, 4, 0), NONE);
            due("it is seen", page.look(text, 4, 3), 1);
            for (int from = 0; from < 4; from++) {
                due("20 of site " + from + " are DONE", page.share(text, from, 4, true), 20);
            }
            due("all are DONE", page.look(text, 4, 4), 121);
            due("it is still seen", page.look(text, 4, 3), 1);
        }
    }

    private static void madeIsDoneAtOnce() {
        sentence("A site makes it, has it DONE at once, and each other site may be told it later");
        for (int text = 0; text < 2; text++) {
            Page page = new Page();
            page.insert(text, 2, 0, 'a');
            page.erase(text, 2, 0);
            for (int k = 0; k < 2; k++) {
                for (int site = 0; site < 5; site++) {
                    due("state of " + k + " at site " + site, page.state(text, site, k), site == 2 ? 2 : 0);
                }
            }
            due("DONE at the maker", page.look(text, 2, 4), 2);
            due("erased at the maker", page.look(text, 2, 3), 0);
            for (int site = 0; site < 5; site++) {
                due("INSERT told to " + site, page.tell(text, site, 0), site == 2 ? 0 : 1);
                due("ERASE told to " + site, page.tell(text, site, 1), site == 2 ? 0 : 1);
            }
        }
    }

    private static void toldWhatIsDone() {
        sentence("TOLD: if it is DONE there or WAITS there: nothing");
        for (int text = 0; text < 2; text++) {
            Page page = new Page();
            page.insert(text, 0, 0, 'a');
            page.insert(text, 1, 0, 'b');
            page.erase(text, 1, 0);
            page.tell(text, 0, 1);
            page.tell(text, 0, 2);
            page.tell(text, 1, 0);
            String before = page.looks(text);
            String sequence = page.sequence(text, 0);
            for (int k = 0; k < 3; k++) {
                due("told again " + k, page.tell(text, 0, k), 0);
                due("its state", page.state(text, 0, k), 2);
            }
            due("an own INSERT", page.tell(text, 1, 1), 0);
            due("an own ERASE", page.tell(text, 1, 2), 0);
            due("shared again", page.share(text, 1, 0, true), 0);
            due("nothing", page.looks(text), before);
            due("the SEQUENCE", page.sequence(text, 0), sequence);
        }
    }

    private static void toldWhatWaits() {
        sentence("TOLD: if it is DONE there or WAITS there: nothing");
        for (int text = 0; text < 2; text++) {
            Page page = new Page();
            page.type(text, 0, 0, "ab");
            page.erase(text, 0, 1);
            due("b WAITS", page.tell(text, 1, 1), 0);
            due("its ERASE WAITS", page.tell(text, 1, 2), 0);
            String before = page.looks(text);
            due("b told again", page.tell(text, 1, 1), 0);
            due("its ERASE told again", page.tell(text, 1, 2), 0);
            due("nothing", page.looks(text), before);
            due("two WAIT", page.look(text, 1, 5), 2);
            due("a comes: each is DONE once", page.tell(text, 1, 0), 3);
            due("none WAITS", page.look(text, 1, 5), 0);
            due("DONE", page.look(text, 1, 4), 3);
            due("the SEQUENCE", page.sequence(text, 1), "a(b)");
        }
    }

    private static void insertNeedsItsLeft() {
        sentence("An INSERT can be done when its LEFT and RIGHT are in the copy. If it can't, it WAITS");
        for (int text = 0; text < 2; text++) {
            Page page = new Page();
            page.type(text, 0, 0, "ab");
            due("without LEFT", page.tell(text, 1, 1), 0);
            due("it WAITS", page.state(text, 1, 1), 1);
            due("it is not in the copy", page.look(text, 1, 2), 0);
            due("LEFT is BEGIN, RIGHT is END", page.tell(text, 2, 0), 1);
            due("with LEFT", page.tell(text, 2, 1), 1);
            due("it is DONE", page.state(text, 2, 1), 2);
            due("LEFT comes", page.tell(text, 1, 0), 2);
            due("it is DONE, too", page.state(text, 1, 1), 2);
        }
    }

    private static void insertNeedsItsRight() {
        sentence("An INSERT can be done when its LEFT and RIGHT are in the copy. If it can't, it WAITS");
        for (int text = 0; text < 2; text++) {
            Page page = new Page();
            page.insert(text, 0, 0, 'b');
            page.insert(text, 0, 0, 'a');
            due("without RIGHT", page.tell(text, 1, 1), 0);
            due("it WAITS", page.state(text, 1, 1), 1);
            due("it is not in the copy", page.look(text, 1, 2), 0);
            page.tell(text, 2, 0);
            due("with RIGHT", page.tell(text, 2, 1), 1);
            due("RIGHT comes", page.tell(text, 1, 0), 2);
            due("the SEQUENCE", page.sequence(text, 1), "ab");
        }
    }

    private static void insertNeedsBoth() {
        sentence("An INSERT can be done when its LEFT and RIGHT are in the copy");
        for (int text = 0; text < 2; text++) {
            Page page = new Page();
            page.insert(text, 0, 0, 'a');
            page.insert(text, 1, 0, 'b');
            page.tell(text, 2, 0);
            page.tell(text, 2, 1);
            page.insert(text, 2, 1, 'c');
            due("its LEFT", page.message(text, 2, 3), 0);
            due("its RIGHT", page.message(text, 2, 4), 100);
            due("with neither", page.tell(text, 3, 2), 0);
            due("LEFT alone", page.tell(text, 3, 0), 1);
            due("it WAITS", page.state(text, 3, 2), 1);
            due("RIGHT, too", page.tell(text, 3, 1), 2);
            due("with neither at site 4", page.tell(text, 4, 2), 0);
            due("RIGHT alone", page.tell(text, 4, 1), 1);
            due("it WAITS at site 4", page.state(text, 4, 2), 1);
            due("LEFT, too", page.tell(text, 4, 0), 2);
            due("the SEQUENCE", page.sequence(text, 3), "acb");
            due("both ways", page.same(text, 3, 4), true);
        }
    }

    private static void insertNeedsNoSeenNeighbour() {
        sentence("An INSERT can be done when its LEFT and RIGHT are in the copy");
        for (int text = 0; text < 2; text++) {
            Page page = new Page();
            page.type(text, 0, 0, "ab");
            page.share(text, 0, 1, false);
            page.insert(text, 1, 1, 'c');
            page.erase(text, 0, 0);
            page.erase(text, 0, 0);
            due("LEFT and RIGHT are erased, and in the copy", page.tell(text, 0, 2), 1);
            due("the SEQUENCE", page.sequence(text, 0), "(a)c(b)");
        }
    }

    private static void eraseNeedsItsCharacter() {
        sentence("an ERASE (can be done) when its CHARACTER is (in the copy)");
        for (int text = 0; text < 2; text++) {
            Page page = new Page();
            page.type(text, 0, 0, "ab");
            page.erase(text, 0, 1);
            due("without it", page.tell(text, 1, 2), 0);
            due("it WAITS", page.state(text, 1, 2), 1);
            due("its LEFT alone", page.tell(text, 1, 0), 1);
            due("it still WAITS", page.state(text, 1, 2), 1);
            due("the CHARACTER", page.tell(text, 1, 1), 2);
            due("it is DONE", page.state(text, 1, 2), 2);
            due("it is erased", page.sequence(text, 1), "a(b)");
            page.tell(text, 2, 0);
            page.tell(text, 2, 1);
            due("with it", page.tell(text, 2, 2), 1);
            due("it is erased at site 2", page.sequence(text, 2), "a(b)");
        }
    }

    private static void erasedAlsoIfItIsAlready() {
        sentence("or erased (also if it is already)");
        for (int text = 0; text < 2; text++) {
            Page page = new Page();
            page.type(text, 0, 0, "ab");
            page.share(text, 0, 1, false);
            due("site 0's ERASE", page.erase(text, 0, 0), 2);
            due("site 1's ERASE", page.erase(text, 1, 0), 3);
            due("one DONE at site 1", page.tell(text, 1, 2), 1);
            due("its state", page.state(text, 1, 2), 2);
            due("DONE", page.look(text, 1, 4), 4);
            due("seen", page.look(text, 1, 3), 1);
            due("the SEQUENCE", page.sequence(text, 1), "(a)b");
            due("both ERASES WAIT", page.tell(text, 2, 3) + page.tell(text, 2, 2), 0);
            due("both are DONE with it", page.tell(text, 2, 0), 3);
            due("b comes", page.tell(text, 2, 1), 1);
            due("seen at site 2", page.look(text, 2, 3), 1);
            due("same", page.same(text, 1, 2), true);
        }
    }

    private static void leastNumberFirst() {
        sentence("then of those that WAIT the one with the least number that can be done now is DONE");
        int[][] told = {{1, 2, 3}, {1, 3, 2}, {2, 1, 3}, {2, 3, 1}, {3, 1, 2}, {3, 2, 1}};
        for (int text = 0; text < 2; text++) {
            for (int[] order : told) {
                Page page = new Page();
                page.insert(text, 0, 0, 'a');
                for (int site = 1; site < 4; site++) {
                    page.tell(text, site, 0);
                    page.insert(text, site, 1, 'a' + site);
                }
                for (int k : order) {
                    due("it WAITS", page.tell(text, 4, k), 0);
                }
                due("all are DONE", page.tell(text, 4, 0), 4);
                due("the SEQUENCE", page.sequence(text, 4), "abcd");
                // In the order of numbers WOOT takes 0, 0, 1 + 1 and 2 + 2 LOOKS, YATA 0, 0, 1 and 2.
                due("LOOKS", page.look(text, 4, 6), text == WOOT ? 6 : 3);
            }
        }
    }

    private static void tillNoneCan() {
        sentence("and so on, till none can");
        for (int text = 0; text < 2; text++) {
            Page page = new Page();
            page.type(text, 0, 0, "abcd");
            page.erase(text, 0, 2);
            page.type(text, 1, 0, "xy");
            for (int k = 6; k >= 1; k--) {
                if (k != 5) {
                    due("it WAITS", page.tell(text, 2, k), 0);
                }
            }
            due("five WAIT", page.look(text, 2, 5), 5);
            due("a chain of four and an ERASE", page.tell(text, 2, 0), 5);
            due("what can't be done WAITS on", page.state(text, 2, 6), 1);
            due("one WAITS", page.look(text, 2, 5), 1);
            due("the rest", page.tell(text, 2, 5), 2);
            due("none WAITS", page.look(text, 2, 5), 0);
            page.share(text, 1, 0, true);
            due("same", page.same(text, 0, 2), true);
        }
    }

    private static void as159Wait() {
        sentence("and so on, till none can");
        for (int text = 0; text < 2; text++) {
            Page page = withErases(text, 40);
            for (int k = 159; k >= 1; k--) {
                due("it WAITS", page.tell(text, 4, k), 0);
            }
            due("159 WAIT", page.look(text, 4, 5), 159);
            due("the last one WAITS", page.state(text, 4, 159), 1);
            due("none is DONE", page.look(text, 4, 4), 0);
            due("all 160", page.tell(text, 4, 0), 160);
            due("none WAITS", page.look(text, 4, 5), 0);
            due("all are DONE", page.look(text, 4, 4), 160);
            due("all are erased", page.look(text, 4, 3), 0);
        }
    }

    private static void insertPlaces() {
        sentence("INSERT at a site at place i (0 .. the seen ones of the copy)");
        for (int text = 0; text < 2; text++) {
            Page page = new Page();
            due("an empty copy, place 1", page.insert(text, 0, 1, 'a'), NONE);
            due("an empty copy, place -1", page.insert(text, 0, -1, 'a'), NONE);
            due("an empty copy, place 0", page.insert(text, 0, 0, 'b'), 0);
            due("one seen, place 2", page.insert(text, 0, 2, 'x'), NONE);
            due("one seen, place 1", page.insert(text, 0, 1, 'c'), 1);
            due("two seen, place 3", page.insert(text, 0, 3, 'x'), NONE);
            due("two seen, place -1", page.insert(text, 0, -1, 'x'), NONE);
            due("two seen, the least place", page.insert(text, 0, LEAST, 'x'), NONE);
            due("two seen, the greatest place", page.insert(text, 0, GREATEST, 'x'), NONE);
            due("two seen, place 0", page.insert(text, 0, 0, 'a'), 2);
            due("three seen, place 3", page.insert(text, 0, 3, 'd'), 3);
            due("the SEQUENCE", page.sequence(text, 0), "abcd");
        }
    }

    private static void insertPlacesOfTheCopy() {
        sentence("INSERT at a site at place i (0 .. the seen ones of the copy)");
        for (int text = 0; text < 2; text++) {
            Page page = new Page();
            page.type(text, 0, 0, "abc");
            due("what the copy lacks does not count", page.insert(text, 1, 1, 'x'), NONE);
            page.tell(text, 1, 2);
            due("what WAITS does not count", page.insert(text, 1, 1, 'x'), NONE);
            page.share(text, 0, 1, false);
            due("what was told counts", page.insert(text, 1, 3, 'd'), 3);
            page.erase(text, 1, 0);
            page.erase(text, 1, 0);
            due("erased ones do not count", page.insert(text, 1, 3, 'x'), NONE);
            due("the seen ones count", page.insert(text, 1, 2, 'e'), 6);
            due("the SEQUENCE", page.sequence(text, 1), "(a)(b)cde");
        }
    }

    private static void insertBetweenTheSeenOnes() {
        sentence("between the seen one ahead (the i-th counted from 1, BEGIN for 0) and the next one");
        // a (b) c (d) e (f): behind a seen one WOOT takes the next seen one, YATA what stands there.
        int[][] lefts = {{BEGIN, 0, 2, 4}, {BEGIN, 0, 2, 4}};
        int[][] rights = {{0, 2, 4, END}, {0, 1, 3, 5}};
        for (int text = 0; text < 2; text++) {
            for (int i = 0; i <= 3; i++) {
                Page page = new Page();
                page.type(text, 0, 0, "abcdef");
                page.erase(text, 0, 5);
                page.erase(text, 0, 3);
                page.erase(text, 0, 1);
                due("the SEQUENCE", page.sequence(text, 0), "a(b)c(d)e(f)");
                due("place " + i, page.insert(text, 0, i, 'x'), 9);
                due("LEFT at place " + i, page.message(text, 9, 3), lefts[text][i]);
                due("RIGHT at place " + i, page.message(text, 9, 4), rights[text][i]);
                page.write(text, 0);
                due("seen", page.allOut(), "ace".substring(0, i) + "x" + "ace".substring(i));
            }
        }
    }

    private static void insertWhereNoneIsSeen() {
        sentence("RIGHT the next seen one (or END). RIGHT what stands right behind it, seen or not (or END)");
        Page page = new Page();
        for (int text = 0; text < 2; text++) {
            page.type(text, 0, 0, "ab");
            page.insert(text, 0, 2, 'c');
            due("END behind the last", page.message(text, 2, 4), END);
            for (int n = 0; n < 3; n++) {
                page.erase(text, 0, 0);
            }
            due("between BEGIN and END", page.insert(text, 0, 0, 'x'), 6);
            due("LEFT", page.message(text, 6, 3), BEGIN);
        }
        due("WOOT's RIGHT is not an erased one", page.message(WOOT, 6, 4), END);
        due("YATA's RIGHT is an erased one", page.message(YATA, 6, 4), 0);
        due("WOOT's SEQUENCE", page.sequence(WOOT, 0), "(a)(b)(c)x");
        due("YATA's SEQUENCE", page.sequence(YATA, 0), "x(a)(b)(c)");
    }

    private static void wootWithNoneBetween() {
        sentence("those that stand between them: if there are none, c comes right ahead of r");
        Page page = new Page();
        page.insert(WOOT, 0, 0, 'b');
        due("between BEGIN and END", page.look(WOOT, 0, 6), 0);
        page.insert(WOOT, 0, 1, 'd');
        page.insert(WOOT, 0, 0, 'a');
        page.insert(WOOT, 0, 2, 'c');
        for (int k = 0; k < 4; k++) {
            page.tell(WOOT, 1, k);
            due("LOOKS for message " + k, page.look(WOOT, 1, 6), 0);
        }
        due("the SEQUENCE", page.sequence(WOOT, 1), "abcd");
        page.insert(WOOT, 2, 0, 'z');
        page.tell(WOOT, 0, 4);
        // Of a b c d b alone is in the ROW, then of c d d alone; behind d there are none.
        due("some between, and at last none", page.look(WOOT, 0, 6), 4 + 1 + 2 + 1);
        due("z right ahead of END", page.sequence(WOOT, 0), "abcdz");
        page.erase(WOOT, 1, 1);
        page.insert(WOOT, 1, 1, 'y');
        due("an erased one stands between, too", page.look(WOOT, 1, 6), 2);
        due("the SEQUENCE with it", page.sequence(WOOT, 1), "a(b)ycd");
    }

    /** Site 0 has a, site 4 has b, and no site has told another one. */
    private static Page apart() {
        Page page = new Page();
        page.insert(WOOT, 0, 0, 'a');
        page.insert(WOOT, 4, 0, 'b');
        return page;
    }

    private static void wootRowByLeft() {
        sentence("those of them whose own LEFT is not behind l");
        Page ahead = apart();
        ahead.tell(WOOT, 1, 1);
        ahead.insert(WOOT, 1, 0, 'o');
        ahead.tell(WOOT, 2, 0);
        ahead.tell(WOOT, 2, 1);
        ahead.insert(WOOT, 2, 1, 'c');
        ahead.share(WOOT, 1, 3, false);
        ahead.tell(WOOT, 3, 0);
        ahead.tell(WOOT, 3, 3);
        due("LEFT ahead of l is in the ROW", ahead.look(WOOT, 3, 6), 2);
        due("c behind the lesser MARK", ahead.sequence(WOOT, 3), "aocb");

        Page page = new Page();
        page.type(WOOT, 0, 0, "ab");
        page.shareWithAll(WOOT, 0);
        page.type(WOOT, 1, 1, "xy");
        page.insert(WOOT, 2, 1, 'c');
        page.tell(WOOT, 1, 4);
        // x alone is asked between a and b, then y between x and b: 2 + 1 and 1 + 1.
        due("LEFT is l: in the ROW; LEFT behind l: not", page.look(WOOT, 1, 6), 5);
        due("c behind both", page.sequence(WOOT, 1), "axycb");

        Page lesser = new Page();
        lesser.type(WOOT, 0, 0, "ab");
        lesser.shareWithAll(WOOT, 0);
        lesser.insert(WOOT, 3, 1, 'x');
        lesser.tell(WOOT, 1, 2);
        lesser.insert(WOOT, 1, 2, 'y');
        lesser.insert(WOOT, 2, 1, 'c');
        lesser.tell(WOOT, 1, 4);
        // y has the lesser MARK, but its LEFT is x, which has the greater one.
        due("LOOKS", lesser.look(WOOT, 1, 6), 3);
        due("c ahead of both", lesser.sequence(WOOT, 1), "acxyb");
    }

    private static void wootRowByRight() {
        sentence("and whose own RIGHT is not ahead of r (by their places in the SEQUENCE)");
        Page behind = apart();
        behind.tell(WOOT, 1, 0);
        behind.insert(WOOT, 1, 1, 'o');
        behind.tell(WOOT, 2, 0);
        behind.tell(WOOT, 2, 1);
        behind.insert(WOOT, 2, 1, 'c');
        behind.share(WOOT, 1, 3, false);
        behind.tell(WOOT, 3, 1);
        due("the SEQUENCE", behind.sequence(WOOT, 3), "aob");
        behind.tell(WOOT, 3, 3);
        due("RIGHT behind r is in the ROW", behind.look(WOOT, 3, 6), 2);
        due("c behind the lesser MARK", behind.sequence(WOOT, 3), "aocb");

        Page page = new Page();
        page.type(WOOT, 0, 0, "ab");
        page.shareWithAll(WOOT, 0);
        page.insert(WOOT, 1, 1, 'x');
        page.tell(WOOT, 3, 2);
        page.insert(WOOT, 3, 1, 'y');
        page.insert(WOOT, 2, 1, 'c');
        page.tell(WOOT, 3, 4);
        // y has the greater MARK, but its RIGHT is x, which is below c's and alone in the ROW.
        due("RIGHT is r: in the ROW; RIGHT ahead of r: not", page.look(WOOT, 3, 6), 3);
        due("c behind both", page.sequence(WOOT, 3), "ayxcb");
    }

    private static void wootRowByMark() {
        sentence("as long as it is not r and its MARK is below c's, the next one");
        String[] rows = {"cdexy", "dcexy", "decxy"};
        int[] looks = {5, 6, 7};
        for (int maker = 0; maker < 3; maker++) {
            // The sites 1, 2 (less the maker) .. : c among d and e, which are of the other two sites.
            Page page = new Page();
            int[] others = maker == 0 ? new int[] {1, 2} : maker == 1 ? new int[] {0, 2} : new int[] {0, 1};
            page.insert(WOOT, 3, 0, 'x');
            page.insert(WOOT, 4, 0, 'y');
            page.insert(WOOT, maker, 0, 'c');
            page.insert(WOOT, others[0], 0, 'd');
            page.insert(WOOT, others[1], 0, 'e');
            for (int k : new int[] {0, 1, 3, 4}) {
                page.tell(WOOT, 3, k);
            }
            due("without c", page.sequence(WOOT, 3), "dexy");
            page.tell(WOOT, 3, 2);
            due("c of site " + maker, page.sequence(WOOT, 3), rows[maker]);
            due("LOOKS for site " + maker, page.look(WOOT, 3, 6), looks[maker]);
        }
        Page page = new Page();
        page.insert(WOOT, 0, 0, 'a');
        page.insert(WOOT, 1, 0, 'b');
        page.insert(WOOT, 2, 0, 'c');
        page.tell(WOOT, 0, 1);
        page.tell(WOOT, 0, 2);
        due("all are below: right ahead of r", page.sequence(WOOT, 0), "abc");
    }

    private static void wootLooks() {
        sentence("one for each CHARACTER between l and r, each time; one for each of the ROW that is asked (r is not)");
        Page page = new Page();
        page.insert(WOOT, 1, 0, 'b');
        page.insert(WOOT, 0, 0, 'a');
        page.insert(WOOT, 2, 0, 'c');
        page.tell(WOOT, 1, 1);
        due("one between, asked and not below", page.look(WOOT, 1, 6), 2);
        page.tell(WOOT, 1, 2);
        due("two between, both below: r is not asked", page.look(WOOT, 1, 6), 4);
        page.insert(WOOT, 1, 3, 'd');
        due("none between", page.look(WOOT, 1, 6), 0);
        page.insert(WOOT, 3, 0, 'e');
        page.tell(WOOT, 1, 4);
        // a, b, c are asked and below; d's LEFT is c, so it is asked behind c alone, and is below.
        due("each time", page.look(WOOT, 1, 6), 4 + 3 + 1 + 1);
        due("the SEQUENCE", page.sequence(WOOT, 1), "abcde");
    }

    /** As many as there can be between l and r: each turn leaves one less, or all of them are in the ROW. */
    private static void wootWith59Between() {
        sentence("c is integrated between the one of the ROW ahead of that and that one");
        Page chain = new Page();
        chain.insert(WOOT, 4, 0, 'z');
        chain.type(WOOT, 0, 0, SIXTY.substring(0, 59));
        chain.tell(WOOT, 0, 0);
        due("59 turns, one asked in each", chain.look(WOOT, 0, 6), 59 * 60 / 2 + 59);
        due("z behind all", chain.character(WOOT, 0, 59, 1), 'z');

        Page ahead = new Page();
        ahead.insert(WOOT, 0, 0, 'z');
        ahead.type(WOOT, 4, 0, SIXTY.substring(0, 59));
        ahead.tell(WOOT, 4, 0);
        due("one turn, one asked", ahead.look(WOOT, 4, 6), 59 + 1);
        due("z ahead of all", ahead.character(WOOT, 4, 0, 1), 'z');

        Page row = new Page();
        row.insert(WOOT, 4, 0, 'z');
        for (int n = 0; n < 59; n++) {
            row.insert(WOOT, 0, 0, 'a');
            row.erase(WOOT, 0, 0);
        }
        row.tell(WOOT, 0, 0);
        due("one turn, all asked", row.look(WOOT, 0, 6), 59 + 59);
        due("z behind all of the ROW", row.character(WOOT, 0, 59, 1), 'z');
    }

    private static void yataWith59Between() {
        sentence("For each o from the one right behind LEFT on, to what is ahead of RIGHT");
        Page page = new Page();
        page.insert(YATA, 4, 0, 'z');
        page.type(YATA, 0, 0, SIXTY.substring(0, 59));
        page.tell(YATA, 0, 0);
        due("59 of them", page.look(YATA, 0, 6), 59);
        due("z behind all", page.character(YATA, 0, 59, 1), 'z');

        Page ahead = new Page();
        ahead.insert(YATA, 0, 0, 'z');
        ahead.type(YATA, 4, 0, SIXTY.substring(0, 59));
        ahead.tell(YATA, 4, 0);
        due("the first ends it", ahead.look(YATA, 4, 6), 1);
        due("z ahead of all", ahead.character(YATA, 4, 0, 1), 'z');
    }

    private static void yataWithNoneBetween() {
        sentence("For each o from the one right behind LEFT on, to what is ahead of RIGHT");
        Page page = new Page();
        page.insert(YATA, 0, 0, 'b');
        page.insert(YATA, 0, 1, 'd');
        page.insert(YATA, 0, 0, 'a');
        page.insert(YATA, 0, 2, 'c');
        for (int k = 0; k < 4; k++) {
            page.tell(YATA, 1, k);
            due("no o for message " + k, page.look(YATA, 1, 6), 0);
        }
        due("the SEQUENCE", page.sequence(YATA, 1), "abcd");
        page.share(YATA, 1, 2, false);
        page.insert(YATA, 1, 2, 'x');
        page.insert(YATA, 2, 2, 'y');
        page.tell(YATA, 1, 5);
        due("one o: neither LEFT nor RIGHT is one", page.look(YATA, 1, 6), 1);
        due("c right behind the place", page.sequence(YATA, 1), "abxycd");
        page.erase(YATA, 1, 2);
        page.insert(YATA, 1, 2, 'z');
        due("an own INSERT ahead of an erased one has no o", page.look(YATA, 1, 6), 0);
        due("the SEQUENCE with it", page.sequence(YATA, 1), "abz(x)ycd");
    }

    private static void yataSameLeftLesserSite() {
        sentence("if o's SITE is below c's: the place is o");
        String[] rows = {"cde", "dce", "dec"};
        int[] looks = {1, 2, 2};
        for (int maker = 0; maker < 3; maker++) {
            Page page = new Page();
            int[] others = maker == 0 ? new int[] {1, 2} : maker == 1 ? new int[] {0, 2} : new int[] {0, 1};
            page.insert(YATA, maker, 0, 'c');
            page.insert(YATA, others[0], 0, 'd');
            page.insert(YATA, others[1], 0, 'e');
            page.tell(YATA, 4, 2);
            page.tell(YATA, 4, 1);
            due("without c", page.sequence(YATA, 4), "de");
            page.tell(YATA, 4, 0);
            due("c of site " + maker, page.sequence(YATA, 4), rows[maker]);
            due("LOOKS for site " + maker, page.look(YATA, 4, 6), looks[maker]);
        }
    }

    private static void yataSameLeftGreaterSite() {
        sentence("else, if o's RIGHT is c's RIGHT, it ends here (and if not, the next o has its turn)");
        Page same = new Page();
        same.insert(YATA, 2, 0, 'p');
        same.insert(YATA, 2, 1, 'q');
        same.insert(YATA, 1, 0, 'c');
        same.tell(YATA, 2, 2);
        due("the same RIGHT ends it", same.look(YATA, 2, 6), 1);
        due("c ahead of both", same.sequence(YATA, 2), "cpq");

        Page other = new Page();
        other.insert(YATA, 0, 0, 'p');
        other.tell(YATA, 2, 0);
        other.insert(YATA, 2, 0, 'q');
        other.insert(YATA, 1, 0, 'c');
        other.tell(YATA, 2, 2);
        // q's RIGHT is p: p has its turn, its SITE is below c's.
        due("another RIGHT does not", other.look(YATA, 2, 6), 2);
        due("c behind both", other.sequence(YATA, 2), "qpc");
    }

    private static void yataLeftPassed() {
        sentence("If o's LEFT is another one, that is PASSED: if it is not OPEN, the place is o");
        Page closed = new Page();
        closed.type(YATA, 1, 0, "xyz");
        closed.insert(YATA, 2, 0, 'c');
        closed.tell(YATA, 1, 3);
        // x is the place, so it is OPEN no more: y, then z come along.
        due("LOOKS", closed.look(YATA, 1, 6), 3);
        due("not OPEN: c behind them", closed.sequence(YATA, 1), "xyzc");

        Page open = new Page();
        open.insert(YATA, 3, 0, 'p');
        open.insert(YATA, 3, 0, 's');
        open.insert(YATA, 3, 1, 't');
        open.insert(YATA, 2, 0, 'c');
        open.tell(YATA, 3, 3);
        // s (RIGHT is p) is OPEN, t's LEFT is s; p has the same LEFT and RIGHT and ends it.
        due("LOOKS with OPEN ones", open.look(YATA, 3, 6), 3);
        due("OPEN: c stays ahead of them", open.sequence(YATA, 3), "cstp");

        Page again = new Page();
        again.insert(YATA, 1, 0, 'p');
        again.tell(YATA, 3, 0);
        again.insert(YATA, 3, 0, 's');
        again.insert(YATA, 3, 1, 't');
        again.insert(YATA, 3, 3, 'u');
        again.insert(YATA, 2, 0, 'c');
        again.tell(YATA, 3, 4);
        // s and t are OPEN till p, of a lesser SITE, is the place; then u's LEFT p is OPEN no more.
        due("LOOKS where OPEN ones end", again.look(YATA, 3, 6), 4);
        due("none is OPEN any more", again.sequence(YATA, 3), "stpuc");
    }

    private static void yataLeftNotPassed() {
        sentence("If it is neither of these, it ends here");
        Page page = new Page();
        page.insert(YATA, 0, 0, 'a');
        page.shareWithAll(YATA, 0);
        page.type(YATA, 1, 1, "bc");
        page.insert(YATA, 2, 1, 'p');
        page.tell(YATA, 2, 1);
        due("the SEQUENCE", page.sequence(YATA, 2), "abp");
        page.tell(YATA, 2, 2);
        // c's LEFT is b; p's LEFT is a, which stands ahead of it.
        due("a LEFT ahead of c's LEFT ends it", page.look(YATA, 2, 6), 1);
        due("c ahead of it", page.sequence(YATA, 2), "abcp");

        Page first = new Page();
        first.type(YATA, 1, 0, "bc");
        first.type(YATA, 2, 0, "pq");
        first.tell(YATA, 2, 0);
        first.tell(YATA, 2, 1);
        due("BEGIN is not PASSED", first.look(YATA, 2, 6), 1);
        due("c ahead of p and q", first.sequence(YATA, 2), "bcpq");
    }

    private static void yataBehindItsLeftAndAheadOfItsRight() {
        sentence("c comes right behind the place, at first its LEFT");
        Page page = new Page();
        page.insert(YATA, 0, 0, 'a');
        page.insert(YATA, 0, 1, 'z');
        page.shareWithAll(YATA, 0);
        for (int site = 4; site >= 0; site--) {
            page.insert(YATA, site, 1, 'f' + site);
        }
        for (int k = 2; k < 7; k++) {
            page.tell(YATA, 4, k);
        }
        due("the greatest first", page.sequence(YATA, 4), "afghijz");
        for (int k = 6; k >= 2; k--) {
            page.tell(YATA, 0, k);
        }
        due("the least first", page.sequence(YATA, 0), "afghijz");
    }

    private static void freeIsNotBoundByBeginOrEnd() {
        sentence("each stands behind its LEFT (if that is none of BEGIN, END) and ahead of its RIGHT");
        for (int text = 0; text < 2; text++) {
            Page page = new Page();
            long factorial = 1;
            for (int site = 0; site < 5; site++) {
                page.insert(text, site, 0, 'a' + site);
                page.tell(text, 0, site);
                factorial *= site + 1;
                due("letters that nothing binds", page.orders(text, 0), factorial);
                due("they stand by their MARKS", page.number(text, 0), 0);
            }
        }
    }

    private static void freeIsBoundByLeftAndRight() {
        sentence("each stands behind its LEFT (if that is none of BEGIN, END) and ahead of its RIGHT");
        for (int text = 0; text < 2; text++) {
            Page byLeft = new Page();
            byLeft.type(text, 0, 0, "ab");
            due("LEFT alone binds", byLeft.orders(text, 0), 1);
            Page byRight = new Page();
            byRight.insert(text, 0, 0, 'b');
            byRight.insert(text, 0, 0, 'a');
            due("RIGHT alone binds", byRight.orders(text, 0), 1);
            due("the greater MARK stands first", byRight.number(text, 0), 0);
            Page both = new Page();
            both.insert(text, 0, 0, 'a');
            both.insert(text, 1, 0, 'b');
            both.share(text, 1, 0, true);
            due("neither is bound", both.orders(text, 0), 2);
            both.insert(text, 0, 1, 'c');
            due("both bind c, and c them", both.orders(text, 0), 1);
            both.erase(text, 0, 1);
            due("c binds them if it is erased, too", both.orders(text, 0), 1);
            both.tell(text, 2, 0);
            due("what is not in the copy binds none", both.orders(text, 2), 1);
        }
    }
}
