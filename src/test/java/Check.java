/** Counts the answers that are not the ones that are due, and ends the test by them. */
final class Check {
    private static final int TOLD = 40;

    private final String name;
    private String sentence = "";
    private int asked;
    private int wrong;
    private int sentences;

    Check(String name) {
        this.name = name;
    }

    /** A test of its own for one sentence of the document; it must ask for an answer at least. */
    void sentence(String text, Runnable test) {
        sentence = " [" + text + "]";
        sentences++;
        int before = asked;
        try {
            test.run();
        } catch (RuntimeException e) {
            tell("the test was ended by " + e + " at " + e.getStackTrace()[0]);
        }
        if (asked == before) {
            tell("nothing was asked");
        }
        sentence = "";
    }

    void same(String call, long got, long due) {
        asked++;
        if (got != due) {
            tell(call + " answered " + got + ", due is " + due);
        }
    }

    void same(String call, String got, String due) {
        asked++;
        if (!got.equals(due)) {
            tell(call + " answered " + got + ", due is " + due);
        }
    }

    void refuses(String call, Class<? extends RuntimeException> due, Runnable does) {
        same(call, thrownBy(does), due.getSimpleName());
    }

    void accepts(String call, Runnable does) {
        same(call, thrownBy(does), "nothing");
    }

    static String thrownBy(Runnable does) {
        try {
            does.run();
            return "nothing";
        } catch (RuntimeException e) {
            return e.getClass().getSimpleName();
        }
    }

    private void tell(String text) {
        wrong++;
        if (wrong <= TOLD) {
            System.out.println(name + sentence + ": " + text);
        }
    }

    void finish() {
        System.out.println(name + ": " + sentences + " sentences, " + asked + " answers, " + wrong + " wrong");
        if (wrong != 0 || asked == 0) {
            System.exit(1);
        }
    }
}
