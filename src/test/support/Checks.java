/** What a test is built on: it compares answers with those that are due, and ends with 1 if one is not. */
abstract class Checks {
    private static String sentence = "";
    private static int wrong = 0;

    /** The words of the document that the next answers belong to. */
    static void sentence(String words) {
        sentence = words;
    }

    static void due(String what, long got, long want) {
        if (got != want) {
            fault(what + " answered " + got + ", due is " + want);
        }
    }

    static void due(String what, boolean got, boolean want) {
        if (got != want) {
            fault(what + " answered " + got + ", due is " + want);
        }
    }

    static void due(String what, String got, String want) {
        if (!got.equals(want)) {
            fault(what + " is '" + got + "', due is '" + want + "'");
        }
    }

    private static void fault(String what) {
        wrong++;
        System.out.println((sentence.isEmpty() ? "" : "\"" + sentence + "\": ") + what);
    }

    static int faults() {
        return wrong;
    }

    static void end() {
        System.out.println(wrong == 0 ? "all answers are as due" : wrong + " answers are not as due");
        if (wrong != 0) {
            System.exit(1);
        }
    }
}
