/** One sentence of the document at one of its edges, tried on an office of its own. */
final class Edge {
    /** What is tried; the office is new. */
    interface Trial {
        void on(AcreOffice office);
    }

    private static String sentence = "";
    private static int answers = 0;

    private Edge() {
    }

    /** An edge that throws unasked, or checks nothing, is wrong; the others go on. */
    static void at(String words, Trial trial) {
        sentence = words;
        answers = 0;
        try {
            trial.on(new AcreOffice());
        } catch (RuntimeException e) {
            Check.same(words, "threw " + e, "an answer");
        }
        Check.holds(words + " (is checked)", answers > 0);
    }

    static void is(long got, long due) {
        answers++;
        Check.number(sentence, got, due);
    }

    static void is(String got, String due) {
        answers++;
        Check.same(sentence, got, due);
    }

    static void yes(boolean got) {
        answers++;
        Check.holds(sentence, got);
    }

    static void no(boolean got) {
        answers++;
        Check.fails(sentence, got);
    }

    static void badState(AcreOffice office, Check.Call call) {
        answers++;
        Check.badState(sentence, office, call);
    }

    static void badArgument(AcreOffice office, Check.Call call) {
        answers++;
        Check.badArgument(sentence, office, call);
    }

    static void noSuch(AcreOffice office, Check.Call call) {
        answers++;
        Check.noField(sentence, office, call);
    }
}
