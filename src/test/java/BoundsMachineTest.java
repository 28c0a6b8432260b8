/** The sentences of "Terms" about the machine: which one it is, its ways, times, who reaches whom, the gap. */
public final class BoundsMachineTest {
    private final Due due = new Due();

    public static void main(String[] args) {
        BoundsMachineTest test = new BoundsMachineTest();
        test.whatWasReadLatestWithoutAFault();
        test.everyFaultLeavesTheMachine();
        test.aWayToThatNameOrNowhere();
        test.beltsAreRoundedUp();
        test.readersTakeTheirTimeOthersNone();
        test.oneWayAtLeast();
        test.asManyWaysAsThereAre();
        test.theLeastOfTheFeeders();
        test.due.end();
    }

    /** "THE MACHINE is what was read latest without a fault": not an older one, not a faulty one. */
    private void whatWasReadLatestWithoutAFault() {
        MachineText x = new MachineText();
        due.that("a fault first", Due.read(x, "S1=1"), -5);
        due.that("check() without a machine", x.check(), MachineText.NONE);
        due.that("the first machine", Due.read(x, "S1=1;S2=2;"), 2);
        due.that("printed", Due.printed(x), "S1=1;S2=2;");
        due.that("the second machine", Due.read(x, "S3=3;"), 1);
        due.that("printed", Due.printed(x), "S3=3;");
        due.that("a fault", Due.read(x, "S4=4;S5=5;S6=6;S7=7"), -20);
        due.that("printed", Due.printed(x), "S3=3;");
        due.that("the third machine", Due.read(x, "R4=0>3;S3=4;"), 2);
        due.that("printed", Due.printed(x), "R4=0>3;S3=4;");
        Due.signAll(x, "S9=9;");
        due.that("printed before it is read", Due.printed(x), "R4=0>3;S3=4;");
    }

    /** "(the machine stays)": nothing of it and nothing printed is another one behind a fault. */
    private void everyFaultLeavesTheMachine() {
        String[] faulty = {"", "?", "S", "S0", "S0=", "S0=9", "S0=9;S0=9;", "S0=0;", "S30=1;", "S0=10000;",
            "F2=1>0;G1=0>2,1;B0=1,1>2;x", "G0=0>1,30;", "F0=0>1;", "B0=7,0>1;", Due.parts(4, 25)};
        for (String text : faulty) {
            MachineText x = Due.machine("F0=2>2;G2=1>0,3;");
            x.print();
            String before = Due.state(x);
            due.that("fault of " + text, Due.read(x, text) < 0, true);
            due.that("state behind " + text, Due.state(x), before);
        }
    }

    /** "A part's WAY goes to the part with that name, or nowhere": names 0 and 29, and those beside them. */
    private void aWayToThatNameOrNowhere() {
        for (int name = 0; name <= 29; name++) {
            for (int there = Math.max(0, name - 1); there <= Math.min(29, name + 1); there++) {
                int from = there == 15 ? 20 : name == 15 ? 20 : 15;
                MachineText x = Due.machine("R" + from + "=4>" + name + ";S" + there + "=1;");
                due.that("way to " + name + ", part " + there, x.time(from, there), name == there ? 4 : -1);
                due.that("its name all the same", x.part(0, 4), name);
                due.that("nowhere", x.fault(0, 0) == 1, name != there);
            }
        }
    }

    /** "1000 times its length by its speed, rounded up": where it is whole, and one beside that. */
    private void beltsAreRoundedUp() {
        for (int length : new int[] {1, 2, 3, 7, 10, 999, 1000, 1001, 5000, 9998, 9999}) {
            for (int speed = 1; speed <= 9999; speed += speed < 1100 || speed > 9900 ? 1 : 7) {
                belt(length, speed);
            }
        }
    }

    private void belt(int length, int speed) {
        MachineText x = Due.machine("B0=" + length + "," + speed + ">1;S1=1;");
        long time = x.time(0, 1);
        // The least whole number that is not below 1000 * length / speed.
        boolean right = time * speed >= 1000L * length && (time - 1) * speed < 1000L * length;
        due.that("belt " + length + "," + speed + " takes " + time, right, true);
    }

    /** "a reader its time; others 0": the least and the largest numbers of each. */
    private void readersTakeTheirTimeOthersNone() {
        String[] first = {"R0=0>1;", "R0=1>1;", "R0=9998>1;", "R0=9999>1;", "F0=1>1;", "F0=9999>1;",
            "G0=0>1,1;", "G0=9999>1,1;", "G0=9999>2,1;"};
        int[] times = {0, 1, 9998, 9999, 0, 0, 0, 0, 0};
        for (int i = 0; i < first.length; i++) {
            due.that("through " + first[i], Due.machine(first[i] + "S1=999;").time(0, 1), times[i]);
            // Coming to a part is before going through it.
            due.that("up to a reader", Due.machine(first[i] + "R1=77>3;").time(0, 1), times[i]);
            due.that("up to a belt", Due.machine(first[i] + "B1=77,1>3;").time(0, 1), times[i]);
            due.that("and through it", Due.machine(first[i] + "R1=77>3;S3=1;").time(0, 3), times[i] + 77);
        }
    }

    /** "A part is REACHED by another one, if ways lead there from it (one way at least)". */
    private void oneWayAtLeast() {
        due.that("no way back", Due.machine("F0=3>1;S1=1;").gap(0), MachineText.NONE);
        due.that("one way back", Due.machine("F0=3>0;").gap(0), 3);
        due.that("two ways back", Due.machine("F0=3>1;R1=0>0;").gap(0), 3);
        due.that("no way", Due.machine("F0=3>2;S1=1;").reach(1), 0);
        due.that("one way", Due.machine("F0=3>1;S1=1;").reach(1), 1);
        due.that("against the way", Due.machine("S1=1;R2=0>1;F0=1>3;").time(1, 2), MachineText.NONE);
        due.that("no round: no fault of kind 4", Due.faults(Due.machine("R0=0>1;R1=0>2;")), "1:1.0");
        due.that("a round of one", Due.faults(Due.machine("R0=0>0;R1=0>0;")), "4:0");
        due.that("a round of two", Due.faults(Due.machine("R0=0>1;R1=0>0;")), "4:0 4:1");
    }

    /** A chain of all 24 parts, whole, with one way that goes nowhere, and as a round. */
    private void asManyWaysAsThereAre() {
        for (int cut = 0; cut <= 23; cut++) {
            StringBuilder text = new StringBuilder("F0=5>" + (cut == 1 ? 29 : 1) + ";");
            for (int i = 1; i < 23; i++) {
                text.append("R").append(i).append("=1>").append(i + 1 == cut ? 29 : i + 1).append(";");
            }
            MachineText x = Due.machine(text + "S23=1;");
            due.that("reach(23), cut before " + cut, x.reach(23), cut == 0 ? 1 : 0);
            due.that("time(0, 23), cut before " + cut, x.time(0, 23), cut == 0 ? 22 : -1);
            due.that("gap(23), cut before " + cut, x.gap(23), cut == 0 ? 5 : -1);
            due.that("check(), cut before " + cut, x.check(), cut == 0 ? 0 : 2);
        }
        StringBuilder round = new StringBuilder("F0=5>1;");
        for (int i = 1; i < 24; i++) {
            round.append("R").append(i).append("=1>").append((i + 1) % 24).append(";");
        }
        MachineText x = Due.machine(round.toString());
        due.that("gap(0) of the round", x.gap(0), 5);
        due.that("time(1, 0) of the round", x.time(1, 0), 23);
        due.that("time(0, 23) of the round", x.time(0, 23), 22);
        due.that("check() of the round", x.check(), 25);
    }

    /** "THE GAP of a part is the least one of the feeders that reach it": the largest and the least gap. */
    private void theLeastOfTheFeeders() {
        due.that("one of 9999", Due.machine("F0=9999>2;S2=1;").gap(2), 9999);
        due.that("9999 and 9998", Due.machine("F0=9999>2;F1=9998>2;S2=1;").gap(2), 9998);
        due.that("9998 and 9999", Due.machine("F0=9998>2;F1=9999>2;S2=1;").gap(2), 9998);
        due.that("two alike", Due.machine("F0=7>2;F1=7>2;S2=1;").gap(2), 7);
        due.that("1 and 2", Due.machine("F0=1>2;F1=2>2;S2=1;").gap(2), 1);
        due.that("2, and 1 that goes elsewhere", Due.machine("F0=2>2;F1=1>3;S2=1;").gap(2), 2);
        due.that("its own gap is no one's", Due.machine("F0=2>1;F1=1>2;S2=1;").gap(1), 2);
        due.that("its own gap, as it reaches itself", Due.machine("F0=2>1;F1=1>1;").gap(1), 1);
        due.that("a reader's time is no gap", Due.machine("F0=2>1;R1=1>2;S2=1;").gap(2), 2);
        due.that("a reader alone", Due.machine("R1=1>2;S2=1;").gap(2), MachineText.NONE);
    }
}
