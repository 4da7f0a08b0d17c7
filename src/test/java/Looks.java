import java.util.ArrayList;
import java.util.List;
import java.util.function.Consumer;
import java.util.function.ToIntFunction;

/** What every look answers behind a run of calls: at all that there is, and at what stands next to it. */
final class Looks {
    /** An object is promised for 512 calls, so the run is made again on a new one ahead of that. */
    private static final int LOOKS_AN_OBJECT = 250;
    private static final List<Look> ALL = all();

    private record Look(String name, ToIntFunction<PartitionKernel> at) {
    }

    static int[] behind(Consumer<PartitionKernel> calls) {
        int[] answers = new int[ALL.size()];
        PartitionKernel k = null;
        for (int n = 0; n < answers.length; n++) {
            if (n % LOOKS_AN_OBJECT == 0) {
                k = new PartitionKernel();
                calls.accept(k);
            }
            answers[n] = ALL.get(n).at.applyAsInt(k);
        }
        return answers;
    }

    /** "none", or the first look that answers otherwise. */
    static String difference(int[] got, int[] due) {
        for (int n = 0; n < got.length; n++) {
            if (got[n] != due[n]) {
                return ALL.get(n).name + ": " + got[n] + " instead of " + due[n];
            }
        }
        return "none";
    }

    private static List<Look> all() {
        List<Look> looks = new ArrayList<>();
        for (int p = -1; p <= 4; p++) {
            partition(looks, p);
            for (int n = -1; n <= 8; n++) {
                process(looks, p, n);
            }
        }
        for (int c = -1; c <= 8; c++) {
            channel(looks, c);
        }
        for (int k = -1; k <= 64; k++) {
            error(looks, k);
        }
        for (int w = -1; w <= 4; w++) {
            int what = w;
            looks.add(new Look("about(" + what + ")", k -> k.about(what)));
        }
        return looks;
    }

    private static void partition(List<Look> looks, int p) {
        for (int w = -1; w <= 8; w++) {
            int what = w;
            looks.add(new Look("partition(" + p + ", " + what + ")", k -> k.partition(p, what)));
        }
        for (int at = -4; at <= 1024; at += 4) {
            int place = at;
            looks.add(new Look("peek(" + p + ", " + place + ")", k -> k.peek(p, place)));
        }
    }

    private static void process(List<Look> looks, int p, int n) {
        for (int w = -1; w <= 8; w++) {
            int what = w;
            looks.add(new Look("state(" + p + ", " + n + ", " + what + ")", k -> k.state(p, n, what)));
        }
        for (int r = -1; r <= 32; r++) {
            int x = r;
            looks.add(new Look("register(" + p + ", " + n + ", " + x + ")", k -> k.register(p, n, x)));
        }
    }

    private static void channel(List<Look> looks, int c) {
        for (int w = -1; w <= 2; w++) {
            int what = w;
            looks.add(new Look("traffic(" + c + ", " + what + ")", k -> k.traffic(c, what)));
        }
        for (int w = -1; w <= 8; w++) {
            int word = w;
            looks.add(new Look("word(" + c + ", " + word + ")", k -> k.word(c, word)));
        }
    }

    private static void error(List<Look> looks, int latest) {
        for (int w = -1; w <= 4; w++) {
            int what = w;
            looks.add(new Look("error(" + latest + ", " + what + ")", k -> k.error(latest, what)));
        }
    }

    private Looks() {
    }
}
