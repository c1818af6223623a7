/** Each promise of the document: ordinary calls, the edges that it names, and wrong arguments. */
public final class PromisesTest extends Checks {
    private static final int WOOT = 0;
    private static final int YATA = 1;
    private static final int BEGIN = -1;
    private static final int END = 9999;
    private static final int[] NO_TEXT = {-1, 2, 3, Integer.MAX_VALUE, Integer.MIN_VALUE};
    private static final int[] NO_SITE = {-1, 5, 6, 10, Integer.MAX_VALUE, Integer.MIN_VALUE};
    private static final int[] FAR = {-1, -2, 160, 1000, Integer.MAX_VALUE, Integer.MIN_VALUE};

    public static void main(String[] args) {
        promise1NewObject();
        promise2Insert();
        promise2InsertBesideErased();
        promise2Limit();
        promise3Erase();
        promise3Limit();
        promise3LimitOfErasesAlone();
        promise4TellInAnyOrder();
        promise4TellWoot();
        promise4TellYata();
        promise4TellWrong();
        promise5Share();
        promise6Look();
        promise6LooksOfWoot();
        promise6LooksOfYata();
        promise6LooksOfTheLatestCall();
        promise7Message();
        promise8State();
        promise9Character();
        promise10Write();
        promise11Out();
        promise12Same();
        promise13Shuffle();
        promise14Orders();
        promise14OrdersLimit();
        promise15Number();
        end();
    }

    private static void promise1NewObject() {
        due("1 NONE", SharedPage.NONE, -1);
        Page page = new Page();
        due("1 out", page.out(0), -1);
        for (int text = 0; text < 2; text++) {
            for (int site = 0; site < 5; site++) {
                for (int what = 0; what <= 6; what++) {
                    due("1 look " + what, page.look(text, site, what), 0);
                }
                due("1 write", page.write(text, site), 0);
                due("1 character", page.character(text, site, 0, 0), -1);
                due("1 same", page.same(text, site, 4 - site), true);
            }
        }
        Page other = new Page();
        other.insert(WOOT, 0, 0, 'a');
        due("1 objects stand apart", page.look(WOOT, 0, 0), 0);
    }

    private static void promise2Insert() {
        for (int text = 0; text < 2; text++) {
            Page page = new Page();
            due("2 first", page.insert(text, 3, 0, 'b'), 0);
            due("2 ahead", page.insert(text, 3, 0, 'a'), 1);
            due("2 behind", page.insert(text, 3, 2, 'd'), 2);
            due("2 amid", page.insert(text, 3, 2, 'c'), 3);
            due("2 SEQUENCE", page.sequence(text, 3), "abcd");
            due("2 other site", page.look(text, 2, 2), 0);
            due("2 other text", page.look(1 - text, 3, 0), 0);
            due("2 other text's own numbers", page.insert(1 - text, 3, 0, 'z'), 0);
            due("2 least letter", page.insert(text, 0, 0, 32), 4);
            due("2 greatest letter", page.insert(text, 0, 1, 126), 5);
            int[] noLetter = {31, 127, 0, -1, 'a' + 256, Integer.MAX_VALUE, Integer.MIN_VALUE};
            for (int letter : noLetter) {
                due("2 letter " + letter, page.insert(text, 3, 0, letter), -1);
            }
            for (int none : NO_TEXT) {
                due("2 text " + none, page.insert(none, 0, 0, 'a'), -1);
            }
            for (int none : NO_SITE) {
                due("2 site " + none, page.insert(text, none, 0, 'a'), -1);
            }
            for (int none : new int[] {-1, 5, 6, Integer.MAX_VALUE, Integer.MIN_VALUE}) {
                due("2 place " + none, page.insert(text, 3, none, 'a'), -1);
            }
            due("2 nothing is done", page.look(text, 3, 0), 6);
            due("2 nothing is made", page.look(text, 3, 1), 6);
            due("2 the copy stays", page.sequence(text, 3), "abcd");
        }
    }

    private static void promise2InsertBesideErased() {
        Page page = new Page();
        for (int text = 0; text < 2; text++) {
            page.type(text, 0, 0, "abc");
            page.erase(text, 0, 1);
            due("2 place behind seen ones", page.insert(text, 0, 3, 'x'), -1);
            due("2 beside erased", page.insert(text, 0, 1, 'd'), 4);
            due("2 LEFT", page.message(text, 4, 3), 0);
        }
        due("2 WOOT: RIGHT is seen", page.message(WOOT, 4, 4), 2);
        due("2 WOOT: erased one has the lesser MARK", page.sequence(WOOT, 0), "a(b)dc");
        due("2 YATA: RIGHT stands right behind", page.message(YATA, 4, 4), 1);
        due("2 YATA: SEQUENCE", page.sequence(YATA, 0), "ad(b)c");
        for (int text = 0; text < 2; text++) {
            page.erase(text, 0, 0);
            page.erase(text, 0, 0);
            page.erase(text, 0, 0);
            due("2 all erased", page.look(text, 0, 3), 0);
            due("2 between BEGIN and END", page.insert(text, 0, 0, 'e'), 8);
            due("2 LEFT is BEGIN", page.message(text, 8, 3), BEGIN);
        }
        due("2 WOOT: RIGHT is END", page.message(WOOT, 8, 4), END);
        due("2 YATA: RIGHT is erased", page.message(YATA, 8, 4), 0);
        due("2 YATA: ahead of all", page.sequence(YATA, 0), "e(a)(d)(b)(c)");
    }

    private static void promise2Limit() {
        for (int text = 0; text < 2; text++) {
            Page page = new Page();
            for (int made = 0; made < 60; made++) {
                due("2 number " + made, page.insert(text, made % 5, 0, 'a'), made);
            }
            due("2 the 61st", page.insert(text, 0, 0, 'a'), -1);
            due("2 the 61st, empty place", page.insert(text, 4, 12, 'a'), -1);
            due("2 messages", page.look(text, 0, 0), 60);
            due("2 CHARACTERS", page.look(text, 0, 1), 60);
            due("2 copy", page.look(text, 0, 2), 12);
            due("2 other text is free", page.insert(1 - text, 0, 0, 'a'), 0);
            due("2 ERASE still goes", page.erase(text, 0, 0), 60);
            due("2 erased ones still count", page.insert(text, 0, 0, 'a'), -1);
            for (int from = 1; from < 5; from++) {
                due("2 all come", page.share(text, from, 0, true), 12);
            }
            due("2 whole copy", page.look(text, 0, 2), 60);
        }
    }

    private static void promise3Erase() {
        for (int text = 0; text < 2; text++) {
            Page page = new Page();
            page.type(text, 1, 0, "abc");
            due("3 erase", page.erase(text, 1, 1), 3);
            due("3 SEQUENCE", page.sequence(text, 1), "a(b)c");
            due("3 place counts seen ones", page.erase(text, 1, 1), 4);
            due("3 SEQUENCE 2", page.sequence(text, 1), "a(b)(c)");
            for (int none : new int[] {-1, 1, 2, Integer.MAX_VALUE, Integer.MIN_VALUE}) {
                due("3 place " + none, page.erase(text, 1, none), -1);
            }
            for (int none : NO_TEXT) {
                due("3 text " + none, page.erase(none, 1, 0), -1);
            }
            for (int none : NO_SITE) {
                due("3 site " + none, page.erase(text, none, 0), -1);
            }
            due("3 nothing is done", page.look(text, 1, 0), 5);
            due("3 DONE at once", page.look(text, 1, 4), 5);
            due("3 last one", page.erase(text, 1, 0), 5);
            due("3 none is left", page.erase(text, 1, 0), -1);
            due("3 CHARACTERS stay", page.look(text, 1, 1), 3);
        }
    }

    private static void promise3Limit() {
        Page page = new Page();
        page.type(YATA, 0, 0, "abcdefghijklmnopqrstuvwxyzabcdefghijklmnopqrstuvwxyzabcdefgh");
        page.share(YATA, 0, 1, false);
        for (int made = 0; made < 60; made++) {
            due("3 erase at 0", page.erase(YATA, 0, 0), 60 + made);
        }
        for (int made = 0; made < 40; made++) {
            due("3 erase at 1", page.erase(YATA, 1, 0), 120 + made);
        }
        due("3 the 101st", page.erase(YATA, 1, 0), -1);
        due("3 messages", page.look(YATA, 1, 0), 160);
        due("3 seen", page.look(YATA, 1, 3), 20);
        due("3 the last message", page.message(YATA, 159, 2), 39);
        due("3 erased already", page.share(YATA, 1, 0, true), 40);
        due("3 erased twice counts once", page.look(YATA, 0, 3), 0);
        due("3 others come", page.share(YATA, 0, 1, true), 60);
        due("3 same", page.same(YATA, 0, 1), true);
        due("3 all of 160", page.share(YATA, 0, 2, true), 160);
        due("3 shuffle of 160", page.shuffle(YATA, 2, 7), true);
        page.insert(WOOT, 0, 0, 'a');
        due("3 other text is free", page.erase(WOOT, 0, 0), 1);
    }

    /** The limit of the ERASES alone, with CHARACTERS yet to be made. */
    private static void promise3LimitOfErasesAlone() {
        for (int text = 0; text < 2; text++) {
            Page page = new Page();
            page.type(text, 0, 0, "abcdefghijklmnopqrstuvwxyzabcdefghijklmn");
            page.share(text, 0, 1, false);
            page.share(text, 0, 2, true);
            for (int made = 0; made < 100; made++) {
                due("3 ERASE " + made, page.erase(text, made / 40, 0), 40 + made);
            }
            due("3 ERASE 100", page.erase(text, 2, 0), -1);
            due("3 ERASE 100 is not made", page.look(text, 2, 0), 140);
            due("3 ERASE 100 is not done", page.look(text, 2, 3), 20);
            due("3 INSERT still goes", page.insert(text, 2, 0, 'z'), 140);
            due("3 of a new one", page.erase(text, 2, 0), -1);
        }
    }

    private static void promise4TellInAnyOrder() {
        for (int text = 0; text < 2; text++) {
            Page page = new Page();
            page.type(text, 0, 0, "abc");
            page.erase(text, 0, 1);
            due("4 ERASE waits", page.tell(text, 1, 3), 0);
            due("4 waits for its LEFT", page.tell(text, 1, 2), 0);
            due("4 told again while it WAITS", page.tell(text, 1, 2), 0);
            due("4 waiting", page.look(text, 1, 5), 2);
            due("4 first", page.tell(text, 1, 0), 1);
            due("4 the rest wakes", page.tell(text, 1, 1), 3);
            due("4 told again", page.tell(text, 1, 1), 0);
            due("4 SEQUENCE", page.sequence(text, 1), "a(b)c");
            due("4 own message", page.tell(text, 0, 0), 0);
            page.insert(text, 1, 0, 'z');
            page.insert(text, 1, 1, 'y');
            due("4 waits for its RIGHT and LEFT", page.tell(text, 0, 5), 0);
            due("4 wakes", page.tell(text, 0, 4), 2);
            due("4 same", page.same(text, 0, 1), true);
            due("4 SEQUENCE of both", page.sequence(text, 0), "zya(b)c");
            page.insert(text, 2, 0, 'q');
            due("4 waits for its RIGHT alone", page.tell(text, 2, 4), 0);
            due("4 its RIGHT comes", page.tell(text, 2, 0), 2);
        }
    }

    private static void promise4TellWoot() {
        Page page = new Page();
        page.type(WOOT, 0, 0, "ab");
        page.shareWithAll(WOOT, 0);
        due("4 x", page.insert(WOOT, 1, 1, 'x'), 2);
        due("4 y", page.insert(WOOT, 1, 1, 'y'), 3);
        due("4 p", page.insert(WOOT, 2, 1, 'p'), 4);
        due("4 WOOT waits", page.tell(WOOT, 2, 3), 0);
        due("4 WOOT wakes", page.tell(WOOT, 2, 2), 2);
        due("4 WOOT lesser MARK ahead", page.sequence(WOOT, 2), "ayxpb");
        due("4 WOOT told p", page.tell(WOOT, 1, 4), 1);
        due("4 WOOT y is not in the ROW", page.sequence(WOOT, 1), "ayxpb");

        Page other = new Page();
        other.insert(WOOT, 2, 0, 'p');
        other.insert(WOOT, 4, 0, 'r');
        other.tell(WOOT, 4, 0);
        due("4 WOOT by MARKS", other.sequence(WOOT, 4), "pr");
        other.insert(WOOT, 3, 0, 'c');
        other.tell(WOOT, 4, 2);
        due("4 WOOT between MARKS", other.sequence(WOOT, 4), "pcr");
    }

    private static void promise4TellYata() {
        Page page = new Page();
        page.type(YATA, 0, 0, "a");
        page.shareWithAll(YATA, 0);
        page.type(YATA, 1, 1, "xy");
        page.insert(YATA, 2, 1, 'p');
        due("4 YATA told p", page.tell(YATA, 1, 3), 1);
        due("4 YATA behind all of the lesser site's", page.sequence(YATA, 1), "axyp");
        due("4 YATA told x", page.tell(YATA, 2, 1), 1);
        due("4 YATA ahead of the greater site's", page.sequence(YATA, 2), "axp");
        due("4 YATA told y", page.tell(YATA, 2, 2), 1);
        due("4 YATA same", page.same(YATA, 1, 2), true);

        Page other = new Page();
        other.insert(YATA, 2, 0, 'p');
        other.insert(YATA, 2, 0, 's');
        other.insert(YATA, 2, 1, 't');
        other.insert(YATA, 1, 0, 'c');
        other.insert(YATA, 3, 0, 'd');
        other.tell(YATA, 2, 3);
        due("4 YATA ahead of OPEN ones", other.sequence(YATA, 2), "cstp");
        other.tell(YATA, 2, 4);
        due("4 YATA behind the lesser sites", other.sequence(YATA, 2), "cstpd");
        other.share(YATA, 2, 3, true);
        due("4 YATA same for site 3", other.same(YATA, 2, 3), true);
        other.share(YATA, 2, 1, false);
        due("4 YATA same for site 1", other.same(YATA, 2, 1), true);
    }

    private static void promise4TellWrong() {
        Page page = new Page();
        page.insert(WOOT, 0, 0, 'a');
        for (int none : NO_TEXT) {
            due("4 text " + none, page.tell(none, 1, 0), -1);
        }
        for (int none : NO_SITE) {
            due("4 site " + none, page.tell(WOOT, none, 0), -1);
        }
        for (int none : FAR) {
            due("4 message " + none, page.tell(WOOT, 1, none), -1);
        }
        due("4 message 1", page.tell(WOOT, 1, 1), -1);
        due("4 message of the other text", page.tell(YATA, 1, 0), -1);
        due("4 message 0", page.tell(WOOT, 1, 0), 1);
    }

    private static void promise5Share() {
        for (int text = 0; text < 2; text++) {
            Page page = new Page();
            page.type(text, 0, 0, "abc");
            page.erase(text, 0, 0);
            due("5 down", page.share(text, 0, 1, true), 4);
            due("5 up", page.share(text, 0, 2, false), 4);
            due("5 same down", page.same(text, 0, 1), true);
            due("5 same up", page.same(text, 0, 2), true);
            due("5 again", page.share(text, 0, 1, true), 0);
            due("5 with itself", page.share(text, 0, 0, false), 0);
            due("5 back", page.share(text, 1, 0, true), 0);
            page.insert(text, 1, 2, 'd');
            page.tell(text, 3, 4);
            due("5 what WAITS is not told on", page.share(text, 3, 4, true), 0);
            due("5 what WAITED is counted", page.share(text, 0, 3, false), 5);
            due("5 SEQUENCE", page.sequence(text, 3), "(a)bcd");
            due("5 other site stays", page.look(text, 4, 4), 0);
            due("5 only what is DONE there", page.share(text, 2, 4, true), 4);
            for (int none : NO_TEXT) {
                due("5 text " + none, page.share(none, 0, 1, true), -1);
            }
            for (int none : NO_SITE) {
                due("5 from " + none, page.share(text, none, 1, true), -1);
                due("5 to " + none, page.share(text, 0, none, false), -1);
            }
        }
        Page page = new Page();
        page.insert(WOOT, 0, 0, 'a');
        page.insert(WOOT, 1, 0, 'b');
        page.insert(WOOT, 2, 0, 'c');
        page.share(WOOT, 1, 0, false);
        page.share(WOOT, 2, 0, false);
        // Up: b asks a (2 LOOKS), c asks a and b (4). Down: b asks c (2), a asks b (3).
        page.share(WOOT, 0, 3, false);
        due("5 from the least up", page.look(WOOT, 3, 6), 6);
        page.share(WOOT, 0, 4, true);
        due("5 from the greatest down", page.look(WOOT, 4, 6), 5);
    }

    private static void promise6Look() {
        for (int text = 0; text < 2; text++) {
            Page page = new Page();
            page.type(text, 0, 0, "abc");
            page.erase(text, 0, 1);
            page.erase(text, 0, 1);
            page.tell(text, 1, 0);
            page.tell(text, 1, 3);
            page.tell(text, 1, 2);
            int[] ofMaker = {5, 3, 3, 1, 5, 0, 0};
            int[] ofOther = {5, 3, 1, 1, 1, 2, 0};
            for (int what = 0; what <= 6; what++) {
                due("6 site 0, what " + what, page.look(text, 0, what), ofMaker[what]);
                due("6 site 1, what " + what, page.look(text, 1, what), ofOther[what]);
                for (int none : NO_TEXT) {
                    due("6 text " + none, page.look(none, 0, what), -1);
                }
                for (int none : NO_SITE) {
                    due("6 site " + none, page.look(text, none, what), -1);
                }
            }
            for (int none : new int[] {-1, 7, 8, Integer.MAX_VALUE, Integer.MIN_VALUE}) {
                due("6 what " + none, page.look(text, 0, none), -1);
            }
        }
    }

    private static void promise6LooksOfWoot() {
        Page page = new Page();
        page.insert(WOOT, 0, 0, 'a');
        page.insert(WOOT, 1, 0, 'b');
        page.insert(WOOT, 2, 0, 'c');
        page.tell(WOOT, 0, 2);
        due("6 one between, one asked", page.look(WOOT, 0, 6), 2);
        page.tell(WOOT, 0, 1);
        due("6 two between, two asked", page.look(WOOT, 0, 6), 4);
        page.tell(WOOT, 2, 0);
        due("6 asked and not below", page.look(WOOT, 2, 6), 2);

        Page other = new Page();
        other.type(WOOT, 0, 0, "ab");
        other.shareWithAll(WOOT, 0);
        other.insert(WOOT, 1, 1, 'x');
        other.insert(WOOT, 1, 1, 'y');
        other.insert(WOOT, 2, 1, 'p');
        other.tell(WOOT, 1, 4);
        due("6 one of two in the ROW", other.look(WOOT, 1, 6), 3);
        other.insert(WOOT, 0, 1, 'k');
        // k between a and b: y x p are three, x is asked; then y alone is between a and x, and asked.
        other.tell(WOOT, 1, 5);
        due("6 each time", other.look(WOOT, 1, 6), 6);
        due("6 SEQUENCE", other.sequence(WOOT, 1), "akyxpb");

        Page own = new Page();
        own.type(WOOT, 0, 0, "ab");
        own.erase(WOOT, 0, 0);
        own.insert(WOOT, 0, 0, 'c');
        due("6 own INSERT across an erased one", own.look(WOOT, 0, 6), 2);
        own.insert(WOOT, 0, 2, 'd');
        due("6 own INSERT with none between", own.look(WOOT, 0, 6), 0);
    }

    private static void promise6LooksOfYata() {
        Page page = new Page();
        page.type(YATA, 0, 0, "a");
        page.shareWithAll(YATA, 0);
        page.type(YATA, 1, 1, "xy");
        page.insert(YATA, 2, 1, 'p');
        page.tell(YATA, 1, 3);
        due("6 YATA behind both", page.look(YATA, 1, 6), 2);
        page.tell(YATA, 2, 1);
        due("6 YATA ends at the same RIGHT", page.look(YATA, 2, 6), 1);
        page.tell(YATA, 2, 2);
        due("6 YATA ends at another LEFT", page.look(YATA, 2, 6), 1);
        page.insert(YATA, 2, 0, 'q');
        due("6 YATA own INSERT", page.look(YATA, 2, 6), 0);

        Page other = new Page();
        other.insert(YATA, 2, 0, 'p');
        other.insert(YATA, 2, 0, 's');
        other.insert(YATA, 2, 1, 't');
        other.insert(YATA, 1, 0, 'c');
        other.tell(YATA, 2, 3);
        due("6 YATA over another RIGHT", other.look(YATA, 2, 6), 3);

        Page third = new Page();
        third.type(YATA, 2, 0, "pqr");
        third.type(YATA, 1, 0, "xy");
        third.tell(YATA, 2, 3);
        due("6 YATA asks none behind the same RIGHT", third.look(YATA, 2, 6), 1);
        third.tell(YATA, 2, 4);
        due("6 YATA asks none behind another LEFT", third.look(YATA, 2, 6), 1);
        due("6 YATA SEQUENCE", third.sequence(YATA, 2), "xypqr");
    }

    private static void promise6LooksOfTheLatestCall() {
        Page page = new Page();
        page.insert(WOOT, 0, 0, 'a');
        page.insert(WOOT, 1, 0, 'b');
        page.tell(WOOT, 0, 1);
        due("6 LOOKS", page.look(WOOT, 0, 6), 2);
        page.erase(WOOT, 0, 0);
        due("6 own ERASE keeps them", page.look(WOOT, 0, 6), 2);
        page.tell(WOOT, 0, 1);
        due("6 a message told again keeps them", page.look(WOOT, 0, 6), 2);
        page.erase(WOOT, 1, 0);
        page.tell(WOOT, 0, 3);
        due("6 an ERASE told keeps them", page.look(WOOT, 0, 6), 2);
        page.share(WOOT, 1, 0, true);
        due("6 share of nothing new keeps them", page.look(WOOT, 0, 6), 2);
        page.shuffle(WOOT, 0, 3);
        due("6 shuffle keeps them", page.look(WOOT, 0, 6), 2);
        page.insert(WOOT, 0, 5, 'x');
        due("6 a refused INSERT keeps them", page.look(WOOT, 0, 6), 2);
        page.insert(WOOT, 2, 0, 'c');
        page.insert(WOOT, 2, 1, 'd');
        page.tell(WOOT, 0, 5);
        due("6 what WAITS keeps them", page.look(WOOT, 0, 6), 2);
        // c over a and b: two between, both asked; d behind c finds none between.
        page.tell(WOOT, 0, 4);
        due("6 all that one call woke", page.look(WOOT, 0, 6), 4);
        due("6 other site", page.look(WOOT, 1, 6), 0);
        page.insert(WOOT, 0, 2, 'e');
        due("6 0 LOOKS count, too", page.look(WOOT, 0, 6), 0);

        Page shared = new Page();
        for (int site = 0; site < 4; site++) {
            shared.insert(WOOT, site, 0, 'a' + site);
        }
        shared.share(WOOT, 1, 0, true);
        due("6 LOOKS of a share", shared.look(WOOT, 0, 6), 2);
        shared.share(WOOT, 2, 0, true);
        due("6 LOOKS of the next share alone", shared.look(WOOT, 0, 6), 4);
        shared.tell(WOOT, 0, 3);
        due("6 LOOKS of a tell behind it alone", shared.look(WOOT, 0, 6), 6);
    }

    private static void promise7Message() {
        for (int text = 0; text < 2; text++) {
            Page page = new Page();
            page.insert(text, 2, 0, 'a');
            page.insert(text, 2, 1, 'c');
            page.share(text, 2, 4, true);
            page.insert(text, 4, 1, 'b');
            page.share(text, 4, 0, false);
            page.erase(text, 0, 1);
            int[][] rows = {
                {0, 2, 200, BEGIN, END, 'a'},
                {0, 2, 201, 200, END, 'c'},
                {0, 4, 400, 200, 201, 'b'},
                {1, 0, 400, 200, 201, 'b'}};
            for (int k = 0; k < rows.length; k++) {
                for (int what = 0; what <= 5; what++) {
                    due("7 message " + k + ", what " + what, page.message(text, k, what), rows[k][what]);
                }
                for (int none : new int[] {-1, 6, 7, Integer.MAX_VALUE, Integer.MIN_VALUE}) {
                    due("7 what " + none, page.message(text, k, none), -1);
                }
                for (int none : NO_TEXT) {
                    due("7 text " + none, page.message(none, k, 5), -1);
                }
            }
            for (int none : FAR) {
                due("7 message " + none, page.message(text, none, 4), -1);
            }
            due("7 message 4", page.message(text, 4, 4), -1);
            due("7 other text", page.message(1 - text, 0, 0), -1);
        }
    }

    private static void promise8State() {
        for (int text = 0; text < 2; text++) {
            Page page = new Page();
            page.type(text, 0, 0, "ab");
            due("8 DONE at the maker", page.state(text, 0, 1), 2);
            due("8 neither", page.state(text, 1, 1), 0);
            page.tell(text, 1, 1);
            due("8 WAITS", page.state(text, 1, 1), 1);
            due("8 neither yet", page.state(text, 1, 0), 0);
            page.tell(text, 1, 0);
            due("8 DONE", page.state(text, 1, 0), 2);
            due("8 woken", page.state(text, 1, 1), 2);
            for (int none : NO_TEXT) {
                due("8 text " + none, page.state(none, 0, 0), -1);
            }
            for (int none : NO_SITE) {
                due("8 site " + none, page.state(text, none, 0), -1);
            }
            for (int none : FAR) {
                due("8 message " + none, page.state(text, 0, none), -1);
            }
            due("8 message 2", page.state(text, 0, 2), -1);
            due("8 other text", page.state(1 - text, 0, 0), -1);
        }
    }

    private static void promise9Character() {
        for (int text = 0; text < 2; text++) {
            Page page = new Page();
            page.type(text, 3, 0, "ac");
            page.insert(text, 3, 1, 'b');
            page.erase(text, 3, 0);
            page.erase(text, 3, 1);
            int[][] rows = {
                {300, 'a', 0, -1, 3},
                {302, 'b', 1, 0, 2},
                {301, 'c', 0, 0, 3}};
            for (int i = 0; i < 3; i++) {
                for (int what = 0; what <= 4; what++) {
                    due("9 place " + i + ", what " + what, page.character(text, 3, i, what), rows[i][what]);
                }
                for (int none : new int[] {-1, 5, 6, Integer.MAX_VALUE, Integer.MIN_VALUE}) {
                    due("9 what " + none, page.character(text, 3, i, none), -1);
                }
            }
            for (int what = 0; what <= 4; what++) {
                for (int none : new int[] {-1, 3, 60, Integer.MAX_VALUE, Integer.MIN_VALUE}) {
                    due("9 place " + none, page.character(text, 3, none, what), -1);
                }
                for (int none : NO_TEXT) {
                    due("9 text " + none, page.character(none, 3, 0, what), -1);
                }
                for (int none : NO_SITE) {
                    due("9 site " + none, page.character(text, none, 0, what), -1);
                }
            }
            page.tell(text, 1, 0);
            due("9 seen in another copy", page.character(text, 1, 0, 2), 1);
            due("9 END's place in a shorter copy", page.character(text, 1, 0, 4), 1);
        }
    }

    private static void promise10Write() {
        for (int text = 0; text < 2; text++) {
            Page page = new Page();
            page.type(text, 0, 0, "hello");
            due("10 write", page.write(text, 0), 5);
            due("10 OUT", page.allOut(), "hello");
            page.erase(text, 0, 1);
            due("10 OUT stays till it is written", page.out(1), 'e');
            for (int none : NO_TEXT) {
                due("10 text " + none, page.write(none, 0), -1);
            }
            for (int none : NO_SITE) {
                due("10 site " + none, page.write(text, none), -1);
            }
            due("10 OUT stays", page.out(4), 'o');
            page.shuffle(text, 0, 1);
            due("10 shuffle leaves OUT", page.out(1), 'e');
            due("10 write again", page.write(text, 0), 4);
            due("10 OUT without the erased one", page.allOut(), "hllo");
            due("10 empty copy", page.write(text, 1), 0);
            due("10 OUT is empty", page.out(0), -1);
        }
    }

    private static void promise11Out() {
        Page page = new Page();
        due("11 empty", page.out(0), -1);
        page.type(YATA, 0, 0, " ~");
        due("11 nothing is written yet", page.out(0), -1);
        page.write(YATA, 0);
        due("11 byte 0", page.out(0), 32);
        due("11 byte 1", page.out(1), 126);
        for (int none : new int[] {-1, 2, 59, 60, 61, Integer.MAX_VALUE, Integer.MIN_VALUE}) {
            due("11 byte " + none, page.out(none), -1);
        }
    }

    private static void promise12Same() {
        for (int text = 0; text < 2; text++) {
            Page page = new Page();
            due("12 empty ones", page.same(text, 0, 4), true);
            page.insert(text, 0, 0, 'a');
            page.insert(text, 1, 0, 'a');
            due("12 the same letter is not the same CHARACTER", page.same(text, 0, 1), false);
            due("12 longer", page.same(text, 0, 2), false);
            due("12 shorter", page.same(text, 2, 0), false);
            due("12 itself", page.same(text, 0, 0), true);
            page.share(text, 0, 1, true);
            page.share(text, 1, 0, true);
            due("12 after all was told", page.same(text, 0, 1), true);
            page.erase(text, 0, 0);
            due("12 one erased", page.same(text, 0, 1), false);
            due("12 one erased, the other way", page.same(text, 1, 0), false);
            page.erase(text, 1, 1);
            due("12 another one erased", page.same(text, 0, 1), false);
            page.tell(text, 1, 2);
            page.tell(text, 0, 3);
            due("12 both erased", page.same(text, 0, 1), true);
            page.insert(text, 2, 0, 'b');
            page.insert(text, 2, 1, 'c');
            page.tell(text, 0, 5);
            due("12 what WAITS is not asked", page.same(text, 0, 1), true);
            for (int none : NO_TEXT) {
                due("12 text " + none, page.same(none, 0, 0), false);
            }
            for (int none : NO_SITE) {
                due("12 site a " + none, page.same(text, none, 0), false);
                due("12 site b " + none, page.same(text, 0, none), false);
                due("12 both " + none, page.same(text, none, none), false);
            }
        }
    }

    private static void promise13Shuffle() {
        int[] seeds = {0, 1, -1, 5, 12345, Integer.MAX_VALUE, Integer.MIN_VALUE};
        for (int text = 0; text < 2; text++) {
            Page page = new Page();
            due("13 empty", page.shuffle(text, 0, 0), true);
            page.type(text, 0, 0, "abc");
            page.erase(text, 0, 1);
            page.type(text, 1, 0, "xy");
            page.share(text, 0, 1, true);
            page.type(text, 1, 2, "z");
            page.share(text, 1, 0, false);
            page.type(text, 3, 0, "mn");
            page.tell(text, 0, 8);
            for (int seed : seeds) {
                for (int site = 0; site < 5; site++) {
                    due("13 site " + site + ", seed " + seed, page.shuffle(text, site, seed), true);
                }
                for (int none : NO_TEXT) {
                    due("13 text " + none, page.shuffle(none, 0, seed), false);
                }
                for (int none : NO_SITE) {
                    due("13 site " + none, page.shuffle(text, none, seed), false);
                }
            }
            page.share(text, 3, 4, true);
            page.tell(text, 2, 0);
            page.tell(text, 2, 1);
            page.tell(text, 2, 2);
            due("13 a copy with one erased", page.shuffle(text, 0, 9), true);
            due("13 then one with none erased", page.shuffle(text, 2, 9), true);
            due("13 then one with others", page.shuffle(text, 4, 9), true);
            due("13 the copy stays", page.look(text, 0, 4), 7);
            due("13 what WAITS stays", page.look(text, 0, 5), 1);
        }
    }

    private static void promise14Orders() {
        for (int text = 0; text < 2; text++) {
            Page page = new Page();
            due("14 empty", page.orders(text, 0), 1);
            page.type(text, 0, 0, "abc");
            due("14 a chain", page.orders(text, 0), 1);
            page.erase(text, 0, 1);
            due("14 erased ones count", page.orders(text, 0), 1);
            page.insert(text, 1, 0, 'x');
            due("14 one", page.orders(text, 1), 1);
            page.share(text, 1, 0, true);
            due("14 a chain and one", page.orders(text, 0), 4);
            page.insert(text, 2, 0, 'q');
            page.insert(text, 2, 0, 'p');
            page.share(text, 2, 0, true);
            // 6! over the 3! of one chain and the 2! of the other, which only a RIGHT binds.
            due("14 chains of three, two and one", page.orders(text, 0), 60);
            for (int none : NO_TEXT) {
                due("14 text " + none, page.orders(none, 0), -1);
            }
            for (int none : NO_SITE) {
                due("14 site " + none, page.orders(text, none), -1);
            }
        }
    }

    private static void promise14OrdersLimit() {
        Page page = new Page();
        long factorial = 1;
        for (int n = 1; n <= 12; n++) {
            factorial *= n;
            page.insert(WOOT, 0, 0, 'a');
            page.erase(WOOT, 0, 0);
            due("14 " + n + " that nothing binds", page.orders(WOOT, 0), factorial);
            due("15 by their MARKS", page.number(WOOT, 0), 0);
        }
        page.insert(WOOT, 0, 0, 'a');
        due("14 thirteen, all but one erased", page.orders(WOOT, 0), -1);
        due("15 thirteen", page.number(WOOT, 0), -1);
        due("14 another copy", page.orders(WOOT, 1), 1);
        page.type(YATA, 0, 0, "abcdefghijkl");
        due("14 twelve in a chain", page.orders(YATA, 0), 1);
        page.insert(YATA, 0, 12, 'm');
        due("14 thirteen in a chain", page.orders(YATA, 0), -1);
        due("15 thirteen in a chain", page.number(YATA, 0), -1);
    }

    private static void promise15Number() {
        for (int text = 0; text < 2; text++) {
            Page page = new Page();
            due("15 empty", page.number(text, 0), 0);
            page.insert(text, 2, 0, 'p');
            page.share(text, 2, 4, true);
            page.insert(text, 4, 0, 'q');
            due("15 RIGHT binds", page.number(text, 4), 0);
            page.insert(text, 3, 0, 'c');
            page.share(text, 3, 4, true);
            due("15 SEQUENCE", page.sequence(text, 4), "qpc");
            // The FREE ones: cqp, qpc, qcp. Asked with no orders() ahead of it.
            due("15 number", page.number(text, 4), 1);
            due("15 orders", page.orders(text, 4), 3);
            page.insert(text, 0, 0, 'z');
            page.share(text, 0, 4, true);
            due("15 SEQUENCE 2", page.sequence(text, 4), "zqpc");
            // z bears the least MARK of all: those that begin with it come first.
            due("15 orders 2", page.orders(text, 4), 12);
            due("15 number 2", page.number(text, 4), 1);
            page.insert(text, 4, 0, 'w');
            due("15 SEQUENCE 3", page.sequence(text, 4), "wzqpc");
            // w stands ahead of z, q of p. Ahead of it come those that begin with c (two chains of two:
            // 6) and with q (p, c and the chain wz: 12), and wzcqp.
            due("15 orders 3", page.orders(text, 4), 30);
            due("15 number 3", page.number(text, 4), 19);
            for (int none : NO_TEXT) {
                due("15 text " + none, page.number(none, 0), -1);
            }
            for (int none : NO_SITE) {
                due("15 site " + none, page.number(text, none), -1);
            }
        }
    }
}
