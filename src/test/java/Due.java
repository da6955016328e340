/** Counts the answers that are not the ones that are due, and prints each. */
final class Due {
    private final String name;
    private final int firstPromise;
    private final int[] askedOf;
    private int asked = 0;
    private int wrong = 0;

    Due(String name) {
        this(name, 0, -1);
    }

    /** Of a test for a range of promises: each text begins with the number of one, each has a text. */
    Due(String name, int firstPromise, int lastPromise) {
        this.name = name;
        this.firstPromise = firstPromise;
        askedOf = new int[lastPromise - firstPromise + 1];
    }

    void is(String what, long want, long got) {
        count(what);
        if (got != want) {
            tellWrong(what + " answered " + got + ", due is " + want);
        }
    }

    void is(String what, boolean want, boolean got) {
        is(what, want ? 1 : 0, got ? 1 : 0);
    }

    void is(String what, String want, String got) {
        count(what);
        if (!got.equals(want)) {
            tellWrong(what + " answered \"" + got + "\", due is \"" + want + "\"");
        }
    }

    private void count(String what) {
        asked++;
        if (askedOf.length == 0) {
            return;
        }
        int promise = numberAhead(what) - firstPromise;
        if (promise >= 0 && promise < askedOf.length) {
            askedOf[promise]++;
        } else {
            tellWrong("the text begins with no promise of this test: " + what);
        }
    }

    private static int numberAhead(String what) {
        int blank = what.indexOf(' ');
        return blank > 0 && what.substring(0, blank).matches("[0-9]{1,2}")
                ? Integer.parseInt(what.substring(0, blank)) : -1;
    }

    private void tellWrong(String text) {
        wrong++;
        System.out.println(name + ": " + text);
    }

    /** Ends the program with 1 if an answer was wrong. */
    void end() {
        for (int i = 0; i < askedOf.length; i++) {
            if (askedOf[i] == 0) {
                tellWrong("nothing was asked of promise " + (firstPromise + i));
            }
        }
        System.out.println(name + ": " + asked + " answers, " + wrong + " wrong");
        if (wrong != 0) {
            System.exit(1);
        }
    }
}
