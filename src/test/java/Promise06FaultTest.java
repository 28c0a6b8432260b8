/** fault: the faults of the machine, one by one and in their order. */
public final class Promise06FaultTest {
    public static void main(String[] args) {
        Due due = new Due();
        waysToNowhere(due);
        slowGates(due);
        gatesBeforeGates(due);
        rounds(due);
        stackersWithoutFeeder(due);
        feedersThatAreReached(due);
        allKindsInOrder(due);
        columns(due);
        withoutCheck(due);
        due.end();
    }

    private static void has(Due due, String want, String text) {
        due.that("faults of " + text, Due.faults(Due.machine(text)), want);
    }

    private static void waysToNowhere(Due due) {
        has(due, "1:0.0", "F0=1>29;");
        has(due, "1:0.0", "B0=1,1>1;");
        has(due, "1:0.0", "R0=0>1;");
        has(due, "1:0.0 1:0.1", "G0=0>1,2;");
        has(due, "1:0.0 1:0.1", "G0=0>1,1;");
        has(due, "1:0.1 5:1", "G0=0>1,2;S1=1;");
        has(due, "1:0.0 5:2", "G0=0>1,2;S2=1;");
        has(due, "1:9.0 1:9.1 1:3.0 1:5.0 1:5.1", "G9=0>1,2;R3=0>1;G5=0>2,1;");
    }

    private static void slowGates(Due due) {
        has(due, "", "F0=9>1;G1=9>2,2;S2=1;");
        has(due, "2:1", "F0=9>1;G1=10>2,2;S2=1;");
        has(due, "2:1", "F0=9>1;F3=8>1;G1=9>2,2;S2=1;");
        has(due, "2:1", "F3=8>4;F0=9>1;R4=5>1;G1=9>2,2;S2=1;");
        // No feeder reaches it, so there is no gap that its time could be above.
        has(due, "5:2", "G1=9999>2,2;S2=1;");
        // A reader's time is no gate's.
        has(due, "", "F0=1>1;R1=9999>2;S2=1;");
    }

    private static void gatesBeforeGates(Due due) {
        has(due, "3:1", "F0=9>1;G1=0>2,3;G2=0>3,3;S3=1;");
        has(due, "3:1", "F0=9>1;G1=0>3,2;G2=0>3,3;S3=1;");
        has(due, "3:1", "F0=9>1;G1=0>2,2;G2=0>3,3;S3=1;");
        has(due, "3:1 4:1", "F0=9>1;G1=0>1,3;S3=1;");
        has(due, "3:1 4:1", "F0=9>1;G1=0>3,1;S3=1;");
        has(due, "", "F0=9>1;G1=0>2,3;R2=0>4;G4=0>3,3;S3=1;");
        has(due, "", "F0=9>1;R1=0>2;G2=0>3,3;S3=1;");
    }

    private static void rounds(Due due) {
        has(due, "4:0", "R0=0>0;");
        has(due, "4:0 4:1", "B0=1,1>1;R1=0>0;");
        has(due, "4:5 4:2 4:1", "R5=0>1;R2=0>5;R9=0>2;R1=0>2;");
        has(due, "", "F0=9>1;R1=0>2;S2=1;");
    }

    private static void stackersWithoutFeeder(Due due) {
        has(due, "5:0", "S0=1;");
        has(due, "5:1", "R0=0>1;S1=1;");
        has(due, "5:3 5:2", "F0=1>1;S1=1;S3=1;S2=1;");
        has(due, "1:0.0 5:1", "F0=1>2;S1=1;");
    }

    private static void feedersThatAreReached(Due due) {
        has(due, "4:0 6:0", "F0=1>0;");
        has(due, "6:1", "F0=1>1;F1=1>2;S2=1;");
        has(due, "6:1", "R0=1>1;F1=1>2;S2=1;");
        has(due, "4:0 4:1 6:0 6:1", "F0=1>1;F1=1>0;");
        has(due, "6:1 6:2", "F0=1>1;F1=1>2;F2=1>3;S3=1;");
    }

    private static void allKindsInOrder(Due due) {
        has(due, "1:4.1 2:2 2:4 3:2 4:2 4:4 4:3 5:9 6:3",
            "S9=1;G2=6>4,5;F1=5>2;G4=7>3,8;S5=1;F3=9>2;");
    }

    private static void columns(Due due) {
        MachineText x = Due.machine("G7=0>1,2;S2=1;");
        int[][] want = {{1, 7, 0}, {5, 2, MachineText.NONE}};
        for (int i = 0; i < want.length; i++) {
            for (int what = 0; what <= 2; what++) {
                due.that("fault(" + i + ", " + what + ")", x.fault(i, what), want[i][what]);
            }
        }
        due.that("fault(2, 0)", x.fault(2, 0), MachineText.NONE);
        due.that("fault(-1, 0)", x.fault(-1, 0), MachineText.NONE);
        due.that("fault(0, 3)", x.fault(0, 3), MachineText.OUTSIDE);
        due.that("fault(0, -1)", x.fault(0, -1), MachineText.OUTSIDE);
        for (int wild : Due.WILD) {
            due.that("fault(" + wild + ", 0)", x.fault(wild, 0), MachineText.NONE);
            due.that("fault(0, " + wild + ")", x.fault(0, wild), MachineText.OUTSIDE);
            // A refusal goes before NONE.
            due.that("fault(" + wild + ", 3)", x.fault(wild, 3), MachineText.OUTSIDE);
        }
        due.that("fault(0, 3) without a machine", new MachineText().fault(0, 3), MachineText.OUTSIDE);
    }

    private static void withoutCheck(Due due) {
        MachineText x = Due.machine("S4=1;");
        due.that("fault(0, 1) without check()", x.fault(0, 1), 4);
        Due.read(x, "S6=1;");
        due.that("fault(0, 1) of the newer machine", x.fault(0, 1), 6);
    }
}
