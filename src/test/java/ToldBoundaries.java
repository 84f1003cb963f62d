import java.util.ArrayList;
import java.util.List;

/** Boundary cases of promises 1 to 5, each by its sentence: a new object, THE TEXT, FAULT, LAID. */
final class ToldBoundaries {
    private static final String NEW = Boundaries.NEW;
    private static final String FIRST = "k4;f0.0.0>2.1.1,9;f0.1.0>2.1.0,5;f1.0.1>1.1.0,7;f3.1.1>0.0.1,30;x5;";
    private static final String FLOW = "f0.0.0>1.0.0,1;";
    private final Boundaries at;

    private ToldBoundaries(Boundaries at) { this.at = at; }

    static void go(Boundaries at) {
        ToldBoundaries told = new ToldBoundaries(at);
        told.newObject();
        told.write();
        told.wipe();
        told.fault();
        told.items();
        told.itemsOfK();
        told.itemsOfFlows();
        told.itemsOfCuts();
        told.lay();
        told.layAnew();
    }

    private void newObject() {
        at.holds(1, "As told; THE TEXT is empty.");
        at.run(NEW, "count(7)=0", "fault()=NONE", "lay()=NO", "wipe()=0", "undo()=NO", "late()=0");
        at.holds(1, "at first " + FIRST);
        at.run(NEW, "count(0)=4", "count(1)=16", "count(2)=20", "count(3)=32", "count(4)=1", "count(5)=4", "count(6)=0",
                "told(0, 0)=0", "told(0, 1)=11", "told(0, 2)=9", "told(1, 0)=2", "told(1, 1)=10", "told(1, 2)=5",
                "told(2, 0)=5", "told(2, 1)=6", "told(2, 2)=7", "told(3, 0)=15", "told(3, 1)=1", "told(3, 2)=30",
                "link(5, 2)=1", "link(5, 3)=1", "link(4, 3)=0", "mark(19, 5)=1", "mark(0, 5)=1", "mark(0, 6)=0");
        at.same(NEW, List.of(), FIRST, List.of());
    }

    private void write() {
        at.holds(2, "A letter (32 to 126, as in ASCII)");
        at.run(NEW, "write(31)=BAD", "write(127)=BAD", "write(32)=1", "write(126)=2", "write(31)=BAD", "write(127)=BAD",
                "count(7)=2");
        at.run(NEW, "write(0)=BAD", "write(-1)=BAD", "write(-128)=BAD", "write(128)=BAD", "write(255)=BAD", "write(288)=BAD",
                "write(65643)=BAD", "write(LOW)=BAD", "write(HIGH)=BAD", "count(7)=0");
        List<String> all = new ArrayList<>();
        for (int letter = 32; letter <= 126; letter++) all.add(Boundaries.call("write", letter) + "=" + (letter - 31));
        at.run(NEW, all);
        at.holds(2, "comes behind THE TEXT: how long it is.");
        at.run(NEW, "write(107)=1", "write(50)=2", "fault()=0", "write(59)=3", "fault()=NONE", "lay()=2", "write(120)=4",
                "fault()=3");
        at.holds(2, "BAD; FULL.");
        List<String> full = written(200);
        full.addAll(List.of("write(107)=FULL", "write(32)=FULL", "write(126)=FULL", "count(7)=200", "fault()=0", "lay()=NO",
                "wipe()=200", "write(107)=1"));
        at.run(NEW, full);
        at.holds(2, "Of several the first in the order told; nothing changes then.");
        List<String> both = written(200);
        both.addAll(List.of("write(31)=BAD", "write(127)=BAD", "write(LOW)=BAD", "write(HIGH)=BAD", "count(7)=200"));
        at.run(NEW, both);
    }

    private static List<String> written(int letters) {
        List<String> calls = new ArrayList<>();
        for (int n = 1; n <= letters; n++) calls.add("write(107)=" + n);
        return calls;
    }

    private void wipe() {
        at.holds(3, "THE TEXT is empty: how long it was.");
        at.run(NEW, "wipe()=0", "wipe()=0");
        at.run(NEW, "write(107)=1", "wipe()=1", "wipe()=0", "count(7)=0", "fault()=NONE", "lay()=NO", "write(107)=1");
        List<String> full = written(200);
        full.addAll(List.of("wipe()=200", "count(7)=0", "wipe()=0", "write(32)=1"));
        at.run(NEW, full);
        at.run("k2;x3;", "cut(0, 1)=1", "wipe()=6", "count(0)=2", "link(0, 3)=1", "link(3, 3)=1", "count(6)=1", "undo()=0");
    }

    private void faultIs(int want, String... texts) {
        for (String text : texts) {
            if (want >= 0) at.run(NEW, "tell " + text, "fault()=" + want, "lay()=NO", "fault()=" + want);
            else at.run(NEW, "tell " + text, "fault()=NONE", "fault()=NONE");
        }
    }

    private void fault() {
        at.holds(4, "FAULT. NONE.");
        at.run(NEW, "fault()=NONE", "tell k4;", "fault()=NONE", "wipe()=3", "fault()=NONE");
        at.holds(4, "FAULT: the place of the first letter of the first ITEM that is not so.");
        faultIs(0, "q", "k4", "k3;x1;x1;", "x1;q;");
        faultIs(3, "k4;q;q;", "k4;x77;x99;", "k4;f0.0.0>0.0.1,100;x1;x1;");
        faultIs(6, "k4;x1;x1;x1;", "k4;x1;x32;q;", "k4;x1;f0.0.0>0.0.0,1;", "k4;x1;f0.0.0>0.0.1,00;");
        faultIs(18, "k4;" + FLOW + "x32;", "k4;" + FLOW + "f0.0.0>1.0.0", "k4;" + FLOW + "k4;");
        faultIs(198, "k4;" + FLOW.repeat(13) + "x", "k4;" + FLOW.repeat(13) + "x1", "k4;" + FLOW.repeat(13) + ";");
        at.holds(4, "A TEXT is letters (200 at most)");
        String longest = "k4;" + FLOW.repeat(11) + "x10;x11;x12;x13;x14;x15;x16;x17;";
        at.run(NEW, "tell " + longest, "count(7)=200", "fault()=NONE", "lay()=16", "count(4)=8", "count(5)=11");
        at.run(NEW, "tell " + longest + ";", "count(7)=200", "fault()=NONE");
        faultIs(196, longest.substring(0, 199), longest.substring(0, 199) + ",", longest.substring(0, 196) + "x16;");
    }

    private void items() {
        at.holds(4, "ITEMS one behind the other, each a letter, then what it tells, a ; behind it");
        faultIs(0, ";", "4;", ";k4;", " k4;", "k;", "k4", "k4,", "k4 ;", "k 4;", "K4;", "kk4;");
        faultIs(3, "k4;;", "k4; ", "k4; x1;", "k4;x1", "k4;x1,", "k4;x1 ;", "k4;x 1;", "k4;X1;", "k4;F0.0.0>1.0.0,1;",
                "k4;q1;", "k4;1;", "k4;f0.0.0>1.0.0,1", "k4;f0.0.0>1.0.0,1 ;", "k4;f;", "k4;x;", "k4;xx1;");
        faultIs(6, "k4;x1;;", "k4;x1; x2;", "k4;x1;2;", "k4;x1;x2");
        faultIs(-1, "k4;x1;x2;", "k4;x1;" + FLOW + "x2;" + FLOW);
        for (int end = 1; end < FLOW.length(); end++) faultIs(3, "k4;" + FLOW.substring(0, end));
        for (int end = 1; end < FLOW.length() - 1; end++) faultIs(3, "k4;" + FLOW.substring(0, end) + ";");
    }

    private void itemsOfK() {
        at.holds(4, "K is 2, 4 or 6, H half of it.");
        faultIs(0, "k0;", "k1;", "k3;", "k5;", "k7;", "k8;", "k9;", "k-2;", "k+4;", "k.;", "k/;", "k:;");
        faultIs(-1, "k2;", "k4;", "k6;");
        at.holds(4, "K (a figure); told just once, ahead of all others");
        faultIs(0, "k44;", "k04;", "k10;", "k12;", "k;", "x0;", FLOW, "x0;k4;", FLOW + "k4;");
        faultIs(3, "k4;k4;", "k4;k6;", "k6;k2;", "k4;k;", "k4;k3;");
        faultIs(6, "k4;x0;k4;", "k2;x0;k2;");
    }

    private static String between(String from, String to, String size) { return "k4;f" + from + ">" + to + "," + size + ";"; }

    private void itemsOfFlows() {
        at.holds(4, "by ADDRESSES (a figure each)");
        faultIs(-1, "k2;f0.0.0>1.0.0,1;", "k2;f1.0.0>0.0.0,1;", "k4;f3.1.1>0.0.0,1;", "k4;f0.0.0>3.1.1,1;", "k6;f5.2.2>0.0.0,1;",
                "k6;f0.0.0>5.2.2,1;", "k6;f4.2.2>5.2.2,1;");
        String[] off = {"4.0.0", "9.0.0", "0.2.0", "0.0.2", "0.9.0", "0.0.9", "00.0.0", "0.00.0", "0.0.00", "10.0.0", ".0.0", "0..0",
            "0.0.", "0.0", "0", "", "0.0.0.0", "0,0.0", "0.0,0", "-1.0.0", "a.0.0", "0.0.-1", "0.0.a", "/.0.0", "0.:.0", " 0.0.0"};
        for (String address : off) faultIs(3, between(address, "1.0.1", "1"), between("1.0.1", address, "1"));
        faultIs(3, "k2;f2.0.0>0.0.0,1;", "k2;f0.1.0>1.0.0,1;", "k2;f0.0.1>1.0.0,1;", "k2;f0.0.0>2.0.0,1;", "k2;f0.0.0>1.1.0,1;",
                "k2;f0.0.0>1.0.1,1;", "k6;f6.0.0>0.0.0,1;", "k6;f0.3.0>0.0.0,1;", "k6;f0.0.3>0.0.0,1;", "k6;f0.0.0>6.0.0,1;",
                "k6;f0.0.0>0.3.0,1;", "k6;f0.0.0>0.0.3,1;", "k4;f0.0.0-1.0.0,1;", "k4;f0.0.0>>1.0.0,1;", "k4;f0.0.0>1.0.0;1;");
        at.holds(4, "from a HOST to another one");
        faultIs(3, between("0.0.0", "0.0.0", "1"), between("3.1.1", "3.1.1", "99"), "k2;f1.0.0>1.0.0,5;", "k6;f5.2.2>5.2.2,5;");
        faultIs(-1, between("0.0.0", "0.0.1", "1"), between("3.1.1", "3.1.0", "1"), between("1.0.0", "0.0.0", "1"));
        at.holds(4, "of SIZE S (1 to 99, one or two figures)");
        for (String size : new String[] {"1", "9", "10", "99", "01", "09"}) faultIs(-1, between("0.0.0", "1.0.0", size));
        for (String size : new String[] {"0", "00", "100", "001", "000", "999", "", "-1", "1-", "a", "1a", " 1", "/", ":"})
            faultIs(3, between("0.0.0", "1.0.0", size));
        at.run("k4;f0.0.0>1.0.0,1;f0.0.0>1.0.0,99;f0.0.0>1.0.0,07;", "told(0, 2)=1", "told(1, 2)=99", "told(2, 2)=7");
        // 200 letters have room for 13 FLOWS: so a TEXT cannot tell a 17th, but calls can come upon the bound behind it.
        at.holds(5, "a FLOW (16 at most)");
        at.run("k4;" + FLOW.repeat(13), "count(5)=13", "flow(0, 1, 1)=13", "flow(0, 1, 1)=14", "flow(0, 1, 1)=15",
                "flow(0, 1, 1)=FULL", "lay()=16", "count(5)=13");
    }

    private void itemsOfCuts() {
        at.holds(4, "N one to three figures");
        faultIs(-1, "k4;x0;", "k4;x00;", "k4;x000;", "k4;x9;", "k4;x09;", "k4;x009;", "k4;x31;", "k4;x031;", "k6;x107;", "k6;x53;",
                "k6;x054;", "k2;x0;", "k2;x3;", "k2;x003;");
        faultIs(3, "k4;x;", "k4;x0000;", "k4;x0031;", "k4;x-1;", "k4;x+1;", "k4;xa;", "k4;x1a;", "k4;x/;", "k4;x:;", "k4;x1.0;");
        faultIs(3, "k2;x4;", "k2;x31;", "k4;x32;", "k4;x107;", "k6;x108;", "k6;x110;", "k4;x999;", "k6;x999;", "k6;x1000;");
        at.holds(4, "a LINK that is not CUT yet");
        faultIs(6, "k4;x1;x1;", "k4;x1;x01;", "k4;x1;x001;", "k4;x0;x0;", "k2;x3;x3;");
        faultIs(7, "k4;x31;x31;", "k4;x01;x1;");
        faultIs(8, "k6;x107;x107;");
        faultIs(9, "k4;x1;x2;x1;", "k4;x1;x2;x2;");
        faultIs(-1, "k4;x1;x2;", "k4;x1;x11;", "k4;x1;x10;", "k2;x0;x1;x2;x3;");
        // What one reading of THE TEXT has CUT is not CUT for the next one, nor what is CUT as things stand.
        at.run(NEW, "tell k4;x1;", "fault()=NONE", "fault()=NONE", "lay()=16", "fault()=NONE", "lay()=16", "link(1, 3)=1");
        at.run(NEW, "cut(1, 1)=1", "tell k4;x1;x5;", "fault()=NONE", "lay()=16", "link(1, 3)=1", "count(4)=2");
    }

    private void lay() {
        at.holds(5, "LAID: how many HOSTS. NO.");
        at.run(NEW, "tell k2;", "lay()=2", "tell k4;", "lay()=16", "tell k6;", "lay()=54", "lay()=54", "count(7)=3");
        at.holds(5, "LAID is a TEXT without FAULT, with K (NO else;");
        at.run(NEW, "lay()=NO", "tell k", "lay()=NO", "tell k4", "lay()=NO", "tell x1;", "lay()=NO", "tell k4;x32;", "lay()=NO",
                "tell k6;x1;x1;", "lay()=NO", "tell k6;q", "lay()=NO", "count(0)=4", "count(4)=1", "count(5)=4");
        at.run("k6;x7;", "cut(8, 1)=1", "tick(1)=6", "tell k2;x4;", "lay()=NO", "wipe()=6", "lay()=NO", "count(0)=6", "count(6)=2",
                "link(8, 3)=1", "undo()=1", "undo()=0", "link(8, 3)=0", "link(7, 3)=1");
    }

    private void layAnew() {
        at.holds(5, "FLOWS with SHIFT 0, LINKS as told, all SWITCHES know all of them.");
        at.run(FIRST, "shift(0, 3)=0", "cut(0, 1)=1", "cut(5, 0)=2", "drop(3)=3", "lay()=16", "count(5)=4", "told(0, 3)=0",
                "link(0, 3)=0", "link(5, 3)=1", "late()=0", "mark(0, 0)=0", "mark(2, 5)=1");
        at.same("k6;x1;x107;", List.of("cut(5, 1)=1", "tick(2)=18", "tell k4;x5;", "lay()=16"), "k4;x5;", List.of());
        at.same("k2;x0;", List.of("cut(1, 1)=1", "tell k6;x9;", "lay()=54"), "k6;x9;", List.of());
        at.same("k6;x0;", List.of("cut(1, 1)=1", "tell k2;x1;", "lay()=2", "cut(0, 1)=1", "tell k6;x9;", "lay()=54"), "k6;x9;", List.of());
        at.holds(5, "(the last 2 can be; LAID none)");
        at.run("k4;", "undo()=NO", "count(6)=0", "cut(0, 1)=1", "cut(1, 1)=1", "lay()=16", "count(6)=0", "undo()=NO",
                "cut(2, 1)=1", "undo()=0", "undo()=NO", "link(0, 3)=0", "link(2, 3)=0");
    }
}
