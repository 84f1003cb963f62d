import java.util.ArrayList;
import java.util.List;

/** Boundary cases of promises 9 to 15, each by its sentence: LINKS CUT, SWITCHES that FAIL, TICKS, MARKS, UNDONE. */
final class LinksBoundaries {
    private static final String NEW = Boundaries.NEW;
    private static final String TWO_FLOWS = "k4;f0.0.0>3.1.0,5;f0.0.1>3.0.0,9;";
    private final Boundaries at;

    private LinksBoundaries(Boundaries at) { this.at = at; }

    static void go(Boundaries at) {
        LinksBoundaries links = new LinksBoundaries(at);
        links.cut();
        links.ages();
        links.fail();
        links.heal();
        links.tick();
        links.whatATickTells();
        links.mark();
        links.late();
        links.undo();
        links.undoneChanges();
        links.noChanges();
    }

    private void cut() {
        at.holds(9, "A LINK is CUT (is = 1), or whole again (0): its AGE.");
        at.run("k4;", "cut(0, 1)=1", "cut(31, 1)=1", "cut(0, 0)=2", "cut(31, 0)=2", "cut(0, 1)=3", "link(0, 2)=1", "link(31, 2)=0");
        at.run("k2;x3;", "cut(3, 0)=2", "cut(3, 1)=3", "cut(0, 1)=1");
        at.run("k6;", "cut(107, 1)=1", "cut(53, 1)=1", "cut(54, 1)=1", "count(4)=3");
        at.holds(9, "BAD; NO: it is so.");
        at.run(NEW, "cut(5, 1)=NO", "cut(4, 0)=NO", "count(6)=0", "cut(4, 1)=1", "cut(4, 1)=NO", "cut(4, 0)=2", "cut(4, 0)=NO",
                "count(6)=2", "link(4, 3)=2", "link(5, 3)=1");
        at.run(NEW, "cut(-1, 1)=BAD", "cut(32, 1)=BAD", "cut(-1, 0)=BAD", "cut(32, 0)=BAD", "cut(0, -1)=BAD", "cut(0, 2)=BAD",
                "cut(5, 2)=BAD", "cut(5, -1)=BAD", "cut(5, 3)=BAD", "cut(LOW, 1)=BAD", "cut(HIGH, 1)=BAD", "cut(0, LOW)=BAD",
                "cut(0, HIGH)=BAD", "count(4)=1", "count(6)=0");
        at.run("k2;", "cut(4, 1)=BAD", "cut(3, 1)=1");
        at.run("k6;", "cut(108, 1)=BAD", "cut(107, 1)=1");
    }

    private void ages() {
        at.holds(9, "Both ends of a LINK know its AGE at once.");
        at.run("k4;", "cut(0, 1)=1", "mark(0, 0)=1", "mark(8, 0)=1", "mark(1, 0)=0", "mark(9, 0)=0", "mark(16, 0)=0", "late()=18");
        at.run("k4;", "cut(31, 1)=1", "mark(15, 31)=1", "mark(19, 31)=1", "mark(7, 31)=0", "mark(14, 31)=0", "late()=18",
                "cut(31, 0)=2", "mark(15, 31)=2", "mark(19, 31)=2", "mark(18, 31)=0");
        at.run("k6;", "cut(53, 1)=1", "mark(17, 53)=1", "mark(35, 53)=1", "cut(107, 1)=1", "mark(35, 107)=1", "mark(44, 107)=1",
                "late()=86");
        at.holds(9, "Each LINK has an AGE (0 at first), 1 more each time that it is CUT, or whole again.");
        at.run("k4;", "link(0, 3)=0", "link(31, 3)=0", "mark(0, 0)=0");
        // As old as a LINK can be by the calls that an object is promised for, with the last of them asking.
        at.holds(9, "An object is used for at most 512 calls after it has been made");
        List<String> turns = new ArrayList<>();
        for (int age = 1; age <= 511; age++) turns.add(Boundaries.call("cut", 0, age % 2) + "=" + age);
        List<String> byLink = new ArrayList<>(turns);
        byLink.add("link(0, 3)=511");
        at.run(NEW, byLink);
        List<String> byMark = new ArrayList<>(turns);
        byMark.add("mark(8, 0)=511");
        at.run(NEW, byMark);
        List<String> told = new ArrayList<>(turns.subList(0, 300));
        told.addAll(List.of("mark(1, 0)=0", "tick(9)=18", "mark(1, 0)=300", "mark(19, 0)=300", "late()=0"));
        at.run("k4;", told);
    }

    private void fail() {
        at.holds(10, "A SWITCH FAILS: all its whole LINKS are CUT: how many.");
        at.run("k4;", "fail(0)=2", "link(0, 3)=1", "link(1, 3)=1", "link(2, 3)=0", "count(4)=2", "count(6)=1");
        at.run("k4;", "fail(19)=4", "link(19, 3)=1", "link(23, 3)=1", "link(27, 3)=1", "link(31, 3)=1", "fail(15)=3", "link(31, 3)=1",
                "link(13, 3)=1", "link(15, 3)=1", "link(30, 3)=1", "count(4)=7", "count(6)=2");
        at.run("k2;", "fail(4)=2", "fail(2)=1", "fail(0)=NO", "fail(1)=1", "count(4)=4");
        at.run("k6;", "fail(18)=6", "fail(36)=5", "fail(44)=6", "fail(17)=3", "count(4)=20");
        at.run(NEW, "fail(2)=1", "link(5, 3)=1", "link(4, 3)=1");
        at.run("k4;", "fail(8)=4", "mark(8, 0)=1", "mark(0, 0)=1", "mark(1, 2)=1", "mark(16, 16)=1", "mark(17, 17)=1", "mark(16, 17)=0",
                "late()=72");
        at.holds(10, "BAD; NO: it has none.");
        at.run("k4;x0;x1;", "fail(0)=NO", "count(6)=0", "link(0, 3)=1", "fail(20)=BAD", "fail(-1)=BAD", "fail(LOW)=BAD", "fail(HIGH)=BAD",
                "fail(19)=4", "fail(19)=NO", "count(6)=1");
        at.run("k2;", "fail(5)=BAD", "fail(4)=2", "fail(4)=NO");
        at.run("k6;", "fail(45)=BAD", "fail(44)=6");
    }

    private void heal() {
        at.holds(11, "A SWITCH is HEALED: all its CUT LINKS are whole again: how many.");
        at.run(NEW, "heal(2)=1", "link(5, 3)=2", "link(4, 3)=0", "count(4)=0", "count(6)=1");
        at.run(NEW, "heal(11)=1", "link(5, 3)=2", "mark(2, 5)=2", "mark(11, 5)=2", "mark(3, 5)=1", "late()=18");
        at.run("k4;", "fail(19)=4", "cut(23, 0)=2", "heal(19)=3", "link(23, 3)=2", "link(19, 3)=2", "link(31, 3)=2", "count(4)=0");
        at.run("k2;x0;x1;x2;x3;", "heal(4)=2", "heal(0)=1", "heal(3)=1", "count(4)=0", "link(3, 3)=2", "link(1, 3)=2");
        at.run("k6;", "fail(44)=6", "fail(35)=5", "heal(44)=6", "heal(35)=5");
        at.holds(11, "BAD; NO: none is CUT.");
        at.run(NEW, "heal(0)=NO", "heal(19)=NO", "count(6)=0", "heal(20)=BAD", "heal(-1)=BAD", "heal(LOW)=BAD", "heal(HIGH)=BAD",
                "heal(2)=1", "heal(2)=NO", "heal(11)=NO", "count(6)=1");
        at.run("k2;x3;", "heal(5)=BAD", "heal(4)=1", "heal(4)=NO");
        at.run("k6;x107;", "heal(45)=BAD", "heal(44)=1");
    }

    // K = 2 is one row of SWITCHES: 0 - 2 - 4 - 3 - 1, by the LINKS 0, 2, 3, 1.
    private void tick() {
        at.holds(12, "n (1 to 9) TICKS");
        at.run("k2;", "cut(2, 1)=1", "tick(0)=BAD", "tick(10)=BAD", "tick(-1)=BAD", "tick(LOW)=BAD", "tick(HIGH)=BAD", "late()=3",
                "tick(1)=2", "late()=1", "tick(9)=1", "late()=0");
        at.run("k2;", "cut(0, 1)=1", "tick(2)=2", "late()=1", "mark(1, 0)=0", "tick(1)=1", "mark(1, 0)=1");
        at.run("k2;", "cut(0, 1)=1", "tick(9)=3", "late()=0");
        at.holds(12, "(one change all together; none, if no MARK became another one)");
        at.run("k2;", "tick(9)=0", "tick(1)=0", "count(6)=0", "undo()=NO");
        at.run("k2;", "cut(2, 1)=1", "tick(9)=3", "count(6)=2", "tick(9)=0", "count(6)=2", "undo()=1", "mark(0, 2)=0", "mark(1, 2)=0",
                "late()=3", "undo()=0", "link(2, 3)=0");
        at.run("k2;x0;x1;x2;x3;", "cut(0, 0)=2", "late()=3", "tick(9)=0", "count(6)=1", "late()=3");
        at.run("k2;", "cut(0, 1)=1", "tick(1)=1", "count(6)=2", "mark(4, 0)=1", "undo()=1", "mark(4, 0)=0");
        at.holds(12, "how many MARKS became other ones, in each TICK counted anew.");
        at.run("k2;", "cut(2, 1)=1", "tick(1)=2", "cut(2, 0)=2", "tick(2)=4", "late()=0", "count(6)=2");
        at.run("k2;", "cut(2, 1)=1", "tick(1)=2", "cut(2, 0)=2", "tick(1)=3", "late()=1", "mark(1, 2)=1", "tick(1)=1", "tick(1)=0");
    }

    private void whatATickTells() {
        at.holds(12, "those that its neighbours over whole LINKS had ahead of the TICK, of each LINK.");
        at.run("k4;", "cut(0, 1)=1", "tick(1)=4", "mark(9, 0)=1", "mark(1, 0)=1", "mark(16, 0)=1", "mark(17, 0)=1", "mark(10, 0)=0",
                "tick(1)=5", "mark(10, 0)=1", "mark(14, 0)=1", "mark(18, 0)=1", "mark(19, 0)=1", "mark(11, 0)=0", "mark(2, 0)=0",
                "tick(1)=9", "late()=0");
        at.run("k2;x3;", "cut(2, 1)=1", "tick(9)=1", "late()=2", "mark(3, 2)=0", "cut(3, 0)=2", "late()=5", "tick(1)=2", "late()=3",
                "mark(3, 2)=1", "mark(1, 2)=0", "mark(1, 3)=2", "tick(1)=1", "tick(9)=0", "late()=2", "mark(0, 3)=1", "mark(2, 3)=1");
        at.holds(12, "In a TICK each SWITCH comes to know the greatest of its own MARK and those that its neighbours");
        at.run("k2;", "cut(3, 1)=1", "tick(1)=2", "cut(3, 0)=2", "cut(2, 1)=1", "tick(1)=4", "mark(0, 3)=1", "mark(2, 3)=1",
                "mark(1, 3)=2", "cut(2, 0)=2", "tick(1)=4", "mark(2, 3)=2", "mark(4, 3)=2", "mark(0, 3)=1", "mark(1, 2)=1",
                "mark(3, 2)=2", "tick(9)=2", "late()=0");
    }

    private void mark() {
        at.holds(13, "a LINK that is CUT by the TEXT has AGE 1, and all MARKS of it are 1");
        for (int n = 0; n < 20; n++) at.run("k4;x0;x31;", "mark(" + n + ", 0)=1", "mark(" + n + ", 31)=1", "mark(" + n + ", 1)=0");
        at.holds(13, "MARK. BAD.");
        at.run(NEW, "mark(0, 0)=0", "mark(19, 31)=0", "mark(20, 0)=BAD", "mark(0, 32)=BAD", "mark(-1, 0)=BAD", "mark(0, -1)=BAD",
                "mark(20, 32)=BAD", "mark(-1, 32)=BAD", "mark(1, -1)=BAD", "mark(-1, 1)=BAD", "mark(LOW, 0)=BAD", "mark(0, HIGH)=BAD",
                "mark(HIGH, LOW)=BAD");
        at.run("k2;x3;", "mark(4, 3)=1", "mark(5, 3)=BAD", "mark(4, 4)=BAD", "mark(5, 4)=BAD");
        at.run("k6;x107;", "mark(44, 107)=1", "mark(45, 107)=BAD", "mark(44, 108)=BAD");
    }

    private void late() {
        at.holds(14, "LATE are pairs of a SWITCH and a LINK whose MARK is not the AGE.");
        at.run("k6;x0;x107;", "late()=0");
        at.run("k2;", "cut(0, 1)=1", "late()=3", "cut(0, 0)=2", "late()=3", "tick(9)=3", "late()=0");
        List<String> all = new ArrayList<>();
        for (int l = 0; l < 32; l++) all.add(Boundaries.call("cut", l, 1) + "=1");
        all.addAll(List.of("late()=576", "tick(9)=0", "late()=576", "count(4)=32", "count(6)=2"));
        at.run("k4;", all);
        // By their MARKS the LINK is whole, as it is: but they do not know its AGE.
        at.run("k4;", "cut(31, 1)=1", "cut(31, 0)=2", "late()=18", "mark(0, 31)=0", "tick(1)=6", "late()=12");
    }

    private void undo() {
        at.holds(15, "UNDONE: how many more can be. NO.");
        at.run(NEW, "undo()=NO", "undo()=NO", "cut(0, 1)=1", "undo()=0", "undo()=NO", "link(0, 3)=0");
        at.run(NEW, "cut(0, 1)=1", "cut(1, 1)=1", "count(6)=2", "undo()=1", "count(6)=1", "undo()=0", "count(6)=0", "undo()=NO",
                "count(4)=1");
        at.holds(15, "UNDONE is the latest change (the last 2 can be; LAID none)");
        at.run(NEW, "cut(0, 1)=1", "cut(1, 1)=1", "cut(2, 1)=1", "count(6)=2", "undo()=1", "link(2, 3)=0", "link(1, 3)=1", "undo()=0",
                "link(1, 3)=0", "undo()=NO", "link(0, 3)=1");
        at.run(NEW, "cut(0, 1)=1", "cut(1, 1)=1", "undo()=1", "cut(2, 1)=1", "count(6)=2", "undo()=1", "link(2, 3)=0", "link(0, 3)=1",
                "undo()=0", "link(0, 3)=0", "undo()=NO");
        at.run(NEW, "cut(0, 1)=1", "cut(1, 1)=1", "undo()=1", "undo()=0", "cut(2, 1)=1", "count(6)=1", "undo()=0", "undo()=NO",
                "count(4)=1");
        // What is UNDONE, and calls that make no change, take nothing from what can still be UNDONE.
        at.run("k4;", "cut(0, 1)=1", "cut(1, 1)=1", "undo()=1", "cut(2, 1)=1", "cut(3, 1)=1", "cut(4, 1)=1", "undo()=1", "link(4, 3)=0",
                "link(3, 3)=1", "undo()=0", "link(3, 3)=0", "link(2, 3)=1", "link(1, 3)=0", "link(0, 3)=1", "undo()=NO");
        at.run("k2;x2;x3;", "cut(0, 1)=1", "cut(1, 1)=1", "undo()=1", "cut(1, 1)=1", "cut(1, 0)=2", "fault()=NONE", "plan()=0", "tick(9)=0",
                "undo()=1", "link(1, 3)=1", "mark(1, 1)=1", "undo()=0", "link(1, 3)=0", "mark(1, 1)=0", "link(0, 3)=1", "undo()=NO");
        at.run("k4;", "undo()=NO", "cut(0, 1)=1", "lay()=16", "undo()=NO", "link(0, 3)=0");
        at.run("k4;", "write(120)=4", "cut(0, 1)=1", "write(49)=5", "undo()=0", "count(7)=5", "fault()=3");
    }

    private void isUndone(String text, List<String> ahead, String change) {
        List<String> both = new ArrayList<>(ahead);
        both.add(change);
        both.add("undo()=" + Math.min(1, ahead.size()));
        at.same(text, both, text, ahead);
    }

    private void undoneChanges() {
        at.holds(15, "A change: a LINK CUT or whole again, a SWITCH that FAILS or is HEALED, a TICK, a FLOW that comes, goes, has another "
                + "SHIFT, PLANNED (if a FLOW has another SHIFT then).");
        isUndone(NEW, List.of(), "cut(31, 1)=1");
        isUndone(NEW, List.of(), "cut(5, 0)=2");
        isUndone(NEW, List.of("fail(8)=4"), "cut(0, 0)=2");
        isUndone(NEW, List.of("cut(0, 1)=1"), "fail(8)=3");
        isUndone(NEW, List.of("fail(8)=4"), "heal(8)=4");
        isUndone(NEW, List.of("fail(8)=4"), "tick(1)=8");
        isUndone(NEW, List.of("shift(3, 2)=0"), "flow(0, 15, 99)=4");
        for (int f = 0; f < 4; f++) isUndone(NEW, List.of("shift(3, 2)=0"), "drop(" + f + ")=3");
        isUndone(NEW, List.of("shift(0, 3)=0"), "shift(0, 2)=3");
        isUndone(TWO_FLOWS, List.of(), "plan()=1");
        isUndone(TWO_FLOWS, List.of("cut(9, 1)=1"), "plan()=1");
        at.run(NEW, "drop(0)=3", "drop(0)=2", "drop(0)=1", "undo()=1", "undo()=0", "undo()=NO", "count(5)=3", "told(0, 2)=5");
    }

    private void noChanges() {
        at.holds(15, "PLANNED (if a FLOW has another SHIFT then)");
        at.run("k4;f0.0.0>3.1.0,5;", "plan()=0", "count(6)=0", "undo()=NO", "shift(0, 3)=0", "plan()=0", "count(6)=1", "undo()=0",
                "told(0, 3)=0");
        at.run(TWO_FLOWS, "plan()=1", "count(6)=1", "plan()=0", "count(6)=1", "undo()=0", "told(1, 3)=0");
        at.holds(15, "LINKS, AGES, MARKS, FLOWS are as ahead of it.");
        at.run(NEW, "cut(0, 1)=1", "tick(9)=18", "cut(0, 0)=2", "undo()=1", "link(0, 2)=1", "link(0, 3)=1", "mark(0, 0)=1", "mark(8, 0)=1",
                "late()=0", "undo()=0", "mark(9, 0)=0", "mark(0, 0)=1", "late()=18", "cut(0, 0)=2");
    }
}
