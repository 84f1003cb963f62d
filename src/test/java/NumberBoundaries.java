import java.util.ArrayList;
import java.util.List;
import java.util.Set;

/**
 * Every number of every call at both ends of what is told, and beside them, for each K: "BAD: a number is none that
 * is told (SWITCHES, LINKS, HOSTS, FLOWS, SHIFTS: such as there are)."
 */
final class NumberBoundaries {
    private static final int HIGH = Integer.MAX_VALUE;
    private static final String SENTENCE = "BAD: a number is none that is told (SWITCHES, LINKS, HOSTS, FLOWS, SHIFTS: such as there are).";
    private static final Set<String> TWO_HOSTS = Set.of("way", "arrives", "ways", "flow");
    private final Boundaries at;
    private final int hosts, switches, links, shifts, flows, pods, half;
    private final String text;

    private NumberBoundaries(Boundaries at, int k) {
        this.at = at;
        pods = k;
        half = k / 2;
        hosts = k * half * half;
        switches = 2 * k * half + half * half;
        links = 2 * k * half * half;
        shifts = half * half;
        flows = 3;
        text = "k" + k + ";f0.0.0>1.0.0,5;f1.0.0>0.0.0,7;f0.0.0>1.0.0,99;x1;";
    }

    static void go(Boundaries at) {
        for (int k = 2; k <= 6; k += 2) new NumberBoundaries(at, k).all();
    }

    private void all() {
        row(6, "host", 0, pods - 1, 0, half - 1, 0, half - 1);
        row(7, "node", 0, switches - 1, 0, 4);
        row(8, "link", 0, links - 1, 0, 3);
        row(9, "cut", 0, links - 1, 0, 1);
        row(10, "fail", 0, switches - 1);
        row(11, "heal", 0, switches - 1);
        row(12, "tick", 1, 9);
        row(13, "mark", 0, switches - 1, 0, links - 1);
        row(16, "onward", 0, switches - 1, 0, hosts - 1, 0, shifts - 1);
        row(17, "way", 0, hosts - 1, 0, hosts - 1, 0, shifts - 1, -1, HIGH);
        row(18, "arrives", 0, hosts - 1, 0, hosts - 1, 0, shifts - 1);
        row(19, "ways", 0, hosts - 1, 0, hosts - 1);
        row(20, "pairs", 0, 3);
        row(21, "parts", 0, links - 1);
        row(22, "spread", 0, 3);
        row(23, "flow", 0, hosts - 1, 0, hosts - 1, 1, 99);
        row(24, "drop", 0, flows - 1);
        row(25, "shift", 0, flows - 1, 0, shifts - 1);
        row(26, "told", 0, flows - 1, 0, 5);
        row(27, "load", 0, links - 1, 0, 1, 0, 1);
        row(29, "would", 0, flows - 1, 0, shifts - 1);
        row(31, "count", 0, 7);
    }

    /** Behind the name the least and the greatest of each number. */
    private void row(int promise, String name, int... bounds) {
        at.holds(promise, SENTENCE);
        int numbers = bounds.length / 2;
        List<String> bad = new ArrayList<>();
        for (int x = 0; x < numbers; x++) {
            int least = bounds[2 * x], greatest = bounds[2 * x + 1];
            List<Integer> off = new ArrayList<>(List.of(least - 1, least - 2, least - 1000, Integer.MIN_VALUE));
            if (greatest < HIGH) off.addAll(List.of(greatest + 1, greatest + 2, greatest + 1000, HIGH));
            for (int number : off) {
                bad.add(with(name, bounds, x, number, 0) + "=BAD");
                bad.add(with(name, bounds, x, number, 1) + "=BAD");
            }
            at.fine(text, with(name, bounds, x, least, 1));
            at.fine(text, with(name, bounds, x, greatest, 0));
        }
        at.run(text, bad);
    }

    /** The call with one number set, all others being their least (0) or their greatest (1). */
    private static String with(String name, int[] bounds, int place, int number, int side) {
        int[] args = new int[bounds.length / 2];
        for (int x = 0; x < args.length; x++) args[x] = x == place ? number : bounds[2 * x + side];
        // Behind its two HOSTS a call's number is tried with unlike HOSTS: one told twice would be BAD of itself.
        if (TWO_HOSTS.contains(name) && place > 1) args[1] = bounds[2 + 1 - side];
        return Boundaries.call(name, args);
    }
}
