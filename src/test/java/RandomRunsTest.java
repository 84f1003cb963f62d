import java.util.ArrayList;
import java.util.List;
import java.util.Random;

/** Runs of calls by a fixed row of random numbers, each answer held against Oracle's. */
public final class RandomRunsTest {
    private static final int RUNS = 240;
    private static final int CALLS = 150;
    private static final int MOST_CALLS = 512; // what a later call answers is free
    private static final int TEXT_CALLS = 203;
    private static final int LAST_CALLS = 8 + 16 * 6;
    private static int wrong = 0;

    private final Random random;
    private final TierPods pods = new TierPods();
    private final Oracle oracle = new Oracle();
    private final int run;
    private final List<String> calls = new ArrayList<>();

    private RandomRunsTest(int run) {
        this.run = run;
        this.random = new Random(7919L * run + 1);
    }

    private boolean due(String call, int got, int want) {
        calls.add(call + " -> " + got);
        if (got == want) return true;
        wrong++;
        System.out.println("run " + run + ": " + String.join("; ", calls) + ", due is " + want);
        return false;
    }

    /** Mostly below the bound, now and then just beside it or far off. */
    private int number(int bound) {
        int chance = random.nextInt(40);
        if (chance == 0) return -1;
        if (chance == 1) return bound;
        if (chance == 2) return random.nextInt();
        return bound > 0 ? random.nextInt(bound) : 0;
    }

    private int figure(int bound) { return random.nextInt(60) == 0 ? random.nextInt(10) : random.nextInt(bound); }

    private String address(int k) { return figure(k) + "." + figure(k / 2) + "." + figure(k / 2); }

    private String text() {
        int k = 2 * (1 + random.nextInt(3));
        StringBuilder text = new StringBuilder("k" + k + ";");
        int links = k * k * k / 2;
        int items = random.nextInt(12);
        for (int x = 0; x < items; x++) {
            if (random.nextBoolean()) text.append("f" + address(k) + ">" + address(k) + "," + (1 + random.nextInt(99)) + ";");
            else text.append("x" + figure(links) + ";");
        }
        if (random.nextInt(5) == 0) text.setCharAt(random.nextInt(text.length()), "kfx0123456789.,;> "
                .charAt(random.nextInt(18)));
        if (random.nextInt(8) == 0) text.setLength(random.nextInt(text.length()));
        return text.length() > 200 ? text.substring(0, 200) : text.toString();
    }

    private boolean tellText() {
        boolean fine = due("wipe()", pods.wipe(), oracle.wipe());
        String text = text();
        for (char c : text.toCharArray()) fine &= due("write(" + (int) c + ")", pods.write(c), oracle.write(c));
        fine &= due("fault()", pods.fault(), oracle.fault());
        return fine && due("lay()", pods.lay(), oracle.lay());
    }

    private boolean change() {
        int hosts = oracle.count(1), switches = oracle.count(2), links = oracle.count(3), flows = oracle.count(5);
        int shifts = hosts * hosts > 0 ? oracle.count(0) * oracle.count(0) / 4 : 1;
        int l = number(links), n = number(switches), a = number(hosts), b = number(hosts), f = number(flows), s = number(shifts);
        switch (random.nextInt(11)) {
            case 0: case 1: { int is = number(2); return due("cut(" + l + ", " + is + ")", pods.cut(l, is), oracle.cut(l, is)); }
            case 2: return due("fail(" + n + ")", pods.fail(n), oracle.fail(n));
            case 3: return due("heal(" + n + ")", pods.heal(n), oracle.heal(n));
            case 4: case 5: { int t = random.nextInt(3) > 0 ? 1 : number(11); return due("tick(" + t + ")", pods.tick(t), oracle.tick(t)); }
            case 6: return random.nextInt(3) > 0 || due("undo()", pods.undo(), oracle.undo());
            case 7: case 8: { int z = number(100); return due("flow(" + a + ", " + b + ", " + z + ")", pods.flow(a, b, z), oracle.flow(a, b, z)); }
            case 9: return random.nextBoolean() ? due("drop(" + f + ")", pods.drop(f), oracle.drop(f))
                    : due("shift(" + f + ", " + s + ")", pods.shift(f, s), oracle.shift(f, s));
            default: return due("plan()", pods.plan(), oracle.plan());
        }
    }

    private boolean ask() {
        int hosts = oracle.count(1), switches = oracle.count(2), links = oracle.count(3), flows = oracle.count(5);
        int l = number(links), n = number(switches), a = number(hosts), b = number(hosts), f = number(flows);
        int s = number(oracle.count(0) * oracle.count(0) / 4);
        switch (random.nextInt(18)) {
            case 0: { int c = number(8); return due("count(" + c + ")", pods.count(c), oracle.count(c)); }
            case 1: { int c = number(5); return due("node(" + n + ", " + c + ")", pods.node(n, c), oracle.node(n, c)); }
            case 2: { int c = number(4); return due("link(" + l + ", " + c + ")", pods.link(l, c), oracle.link(l, c)); }
            case 3: { int p = number(6), i = number(3), h = number(3); return due("host(" + p + ", " + i + ", " + h + ")", pods.host(p, i, h), oracle.host(p, i, h)); }
            case 4: return due("mark(" + n + ", " + l + ")", pods.mark(n, l), oracle.mark(n, l));
            case 5: return due("late()", pods.late(), oracle.late());
            case 6: case 7: return due("onward(" + n + ", " + b + ", " + s + ")", pods.onward(n, b, s), oracle.onward(n, b, s));
            case 8: case 9: { int i = number(7) - 1; return due("way(" + a + ", " + b + ", " + s + ", " + i + ")", pods.way(a, b, s, i), oracle.way(a, b, s, i)); }
            case 10: return due("arrives(" + a + ", " + b + ", " + s + ")", pods.arrives(a, b, s), oracle.arrives(a, b, s));
            case 11: return due("ways(" + a + ", " + b + ")", pods.ways(a, b), oracle.ways(a, b));
            case 12: { int c = number(4); return due("pairs(" + c + ")", pods.pairs(c), oracle.pairs(c)); }
            case 13: return due("parts(" + l + ")", pods.parts(l), oracle.parts(l));
            case 14: { int c = number(4); return due("spread(" + c + ")", pods.spread(c), oracle.spread(c)); }
            case 15: { int c = number(6); return due("told(" + f + ", " + c + ")", pods.told(f, c), oracle.told(f, c)); }
            case 16: { int u = number(2), c = number(2); return due("load(" + l + ", " + u + ", " + c + ")", pods.load(l, u, c), oracle.load(l, u, c)); }
            default: return random.nextBoolean() ? due("least()", pods.least(), oracle.least())
                    : due("would(" + f + ", " + s + ")", pods.would(f, s), oracle.would(f, s));
        }
    }

    private boolean hasRoomFor(int more) { return calls.size() + more + LAST_CALLS <= MOST_CALLS; }

    /** Counts and flows, then ages and marks by chance, for as many calls as are left. */
    private boolean sameAtTheEnd() {
        boolean fine = true;
        for (int c = 0; c < 8; c++) fine &= due("count(" + c + ")", pods.count(c), oracle.count(c));
        for (int f = 0; f < oracle.count(5); f++)
            for (int c = 0; c < 6; c++) fine &= due("told(" + f + ", " + c + ")", pods.told(f, c), oracle.told(f, c));
        while (fine && calls.size() < MOST_CALLS) {
            int l = random.nextInt(oracle.count(3)), n = random.nextInt(oracle.count(2));
            fine = random.nextInt(8) == 0 ? due("link(" + l + ", 3)", pods.link(l, 3), oracle.link(l, 3))
                    : due("mark(" + n + ", " + l + ")", pods.mark(n, l), oracle.mark(n, l));
        }
        return fine;
    }

    private void go() {
        boolean fine = run % 4 == 0 || tellText();
        for (int c = 0; fine && c < CALLS && hasRoomFor(1); c++) {
            int chance = random.nextInt(200);
            if (chance == 0 && hasRoomFor(TEXT_CALLS)) fine = tellText();
            else fine = chance < 80 ? change() : ask();
        }
        if (fine) sameAtTheEnd();
    }

    public static void main(String[] args) {
        int runs = args.length > 0 ? Integer.parseInt(args[0]) : RUNS;
        for (int run = 0; run < runs && wrong == 0; run++) new RandomRunsTest(run).go();
        System.out.println(wrong == 0 ? "all answers are as due" : wrong + " answers are not as due");
        if (wrong != 0) System.exit(1);
    }
}
