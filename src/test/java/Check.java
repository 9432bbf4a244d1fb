import java.util.NoSuchElementException;

/** Counts the answers of one test that are not as due, and ends the test with exit code 1 if there were any. */
final class Check {
    private final String test;
    private String words = "";
    private int wrong = 0;
    private int asked = 0;
    private int askedBefore = 0;

    Check(String test) {
        this.test = test;
    }

    /** The answers that follow belong to these words of the document; a wrong one is told with them. */
    void sentence(String next) {
        closeSentence();
        words = next;
        askedBefore = asked;
    }

    /** A sentence under which nothing was asked is one without a test. */
    private void closeSentence() {
        if (!words.isEmpty() && asked == askedBefore) {
            wrong++;
            System.out.println(test + ": nothing was asked about: " + words);
        }
    }

    private String place() {
        return words.isEmpty() ? test + ": " : test + " (" + words + "): ";
    }

    void due(String call, long got, long want) {
        asked++;
        if (got != want) {
            wrong++;
            System.out.println(place() + call + " answered " + got + ", due is " + want);
        }
    }

    void holds(String what, boolean is) {
        asked++;
        if (!is) {
            wrong++;
            System.out.println(place() + "does not hold: " + what);
        }
    }

    void row(HarvestSteps x, int harvester, int i, int what, int want) {
        String call = "row(" + harvester + ", " + i + ", " + what + ")";
        try {
            due(call, x.row(harvester, i, what), want);
        } catch (NoSuchElementException e) {
            holds(call + " answers " + want + ", but it threw", false);
        }
    }

    void noRow(HarvestSteps x, int harvester, int i, int what) {
        String call = "row(" + harvester + ", " + i + ", " + what + ")";
        boolean threw = false;
        try {
            x.row(harvester, i, what);
        } catch (NoSuchElementException e) {
            threw = e.getClass() == NoSuchElementException.class;
        }
        holds(call + " throws NoSuchElementException", threw);
    }

    /** The page that a harvester was answered latest has exactly these records, in this order. */
    void numbers(HarvestSteps x, int harvester, int... want) {
        for (int i = 0; i < want.length; i++) {
            row(x, harvester, i, 0, want[i]);
        }
        noRow(x, harvester, want.length, 0);
    }

    void end() {
        closeSentence();
        if (asked == 0 || wrong != 0) {
            System.out.println(test + ": " + wrong + " of " + asked + " answers are not as due");
            System.exit(1);
        }
    }
}
