/** Counts the answers that are not the ones that are due, and ends the test by them. */
final class Check {
    private final String name;
    private int asked;
    private int wrong;

    Check(String name) {
        this.name = name;
    }

    void same(String call, long got, long due) {
        asked++;
        if (got != due) {
            tell(call + " answered " + got + ", due is " + due);
        }
    }

    void same(String call, String got, String due) {
        asked++;
        if (!got.equals(due)) {
            tell(call + " answered " + got + ", due is " + due);
        }
    }

    void refuses(String call, Class<? extends RuntimeException> due, Runnable does) {
        same(call, thrownBy(does), due.getSimpleName());
    }

    void accepts(String call, Runnable does) {
        same(call, thrownBy(does), "nothing");
    }

    static String thrownBy(Runnable does) {
        try {
            does.run();
            return "nothing";
        } catch (RuntimeException e) {
            return e.getClass().getSimpleName();
        }
    }

    private void tell(String text) {
        wrong++;
        if (wrong <= 20) {
            System.out.println(name + ": " + text);
        }
    }

    void finish() {
        System.out.println(name + ": " + asked + " answers, " + wrong + " wrong");
        if (wrong != 0 || asked == 0) {
            System.exit(1);
        }
    }
}
