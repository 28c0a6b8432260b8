/** time: the least time from coming to a part to coming to another one. */
public final class Promise08TimeTest {
    public static void main(String[] args) {
        Due due = new Due();
        eachKind(due);
        roundedUp(due);
        leastOfSeveral(due);
        theSameOne(due);
        refusals(due);
        longest(due);
        due.end();
    }

    private static void eachKind(Due due) {
        MachineText x = Due.machine("F0=50>1;B1=10,4>2;R2=7>3;G3=60>4,5;S4=9;S5=8;");
        due.that("time(0, 1)", x.time(0, 1), 0);
        due.that("time(1, 2)", x.time(1, 2), 2500);
        due.that("time(2, 3)", x.time(2, 3), 7);
        due.that("time(3, 4)", x.time(3, 4), 0);
        due.that("time(0, 5)", x.time(0, 5), 2507);
        due.that("time(1, 0)", x.time(1, 0), MachineText.NONE);
        due.that("time(4, 5)", x.time(4, 5), MachineText.NONE);
        due.that("time(4, 4)", x.time(4, 4), 0);
    }

    private static void roundedUp(Due due) {
        int[][] belts = {{1, 1, 1000}, {1, 3, 334}, {2, 3, 667}, {3, 3, 1000}, {1, 1000, 1}, {1, 1001, 1},
            {1, 999, 2}, {1, 9999, 1}, {9999, 9999, 1000}, {9999, 1, 9999000}, {9998, 9999, 1000}, {10, 9999, 2}};
        for (int[] belt : belts) {
            MachineText x = Due.machine("B0=" + belt[0] + "," + belt[1] + ">1;S1=1;");
            due.that("belt " + belt[0] + "," + belt[1], x.time(0, 1), belt[2]);
        }
        // Each belt is rounded for itself.
        due.that("three belts", Due.machine("B0=1,3>1;B1=1,3>2;B2=1,3>3;S3=1;").time(0, 3), 1002);
    }

    private static void leastOfSeveral(Due due) {
        due.that("second way", Due.machine("G0=1>1,2;R1=9>3;R2=8>3;S3=1;").time(0, 3), 8);
        due.that("first way", Due.machine("G0=1>1,2;R1=7>3;R2=8>3;S3=1;").time(0, 3), 7);
        due.that("more parts, less time",
            Due.machine("S9=1;G0=1>1,2;R1=9>9;R2=1>3;R3=1>4;R4=1>5;R5=1>9;").time(0, 9), 4);
        due.that("round once more is longer", Due.machine("R0=5>1;G1=1>0,2;S2=1;").time(0, 2), 5);
    }

    private static void theSameOne(Due due) {
        MachineText x = Due.machine("R0=5>1;R1=6>0;R2=3>2;");
        due.that("time(0, 0)", x.time(0, 0), 0);
        due.that("time(0, 1)", x.time(0, 1), 5);
        due.that("time(1, 0)", x.time(1, 0), 6);
        due.that("time(2, 2)", x.time(2, 2), 0);
        due.that("time(2, 0)", x.time(2, 0), MachineText.NONE);
        // 0 also where the part reaches itself, only later, and where it does not.
        for (String part : new String[] {"F3=9>3;", "F3=9>4;", "B3=9,1>3;", "B3=9,1>4;", "R3=9>3;", "R3=9>4;",
            "G3=9>3,3;", "G3=9>4,4;", "S3=9;"}) {
            due.that("time(3, 3) of " + part, Due.machine(part).time(3, 3), 0);
        }
    }

    private static void refusals(Due due) {
        MachineText x = Due.machine("F0=1>3;S1=1;");
        due.that("time(0, 3)", x.time(0, 3), MachineText.UNKNOWN);
        due.that("time(3, 0)", x.time(3, 0), MachineText.UNKNOWN);
        due.that("time(3, 3)", x.time(3, 3), MachineText.UNKNOWN);
        due.that("time(0, 1)", x.time(0, 1), MachineText.NONE);
        for (int wild : Due.WILD) {
            due.that("time(0, " + wild + ")", x.time(0, wild), MachineText.UNKNOWN);
            due.that("time(" + wild + ", 0)", x.time(wild, 0), MachineText.UNKNOWN);
            due.that("time(" + wild + ", same)", x.time(wild, wild), MachineText.UNKNOWN);
        }
        due.that("without a machine", new MachineText().time(0, 0), MachineText.UNKNOWN);
    }

    private static void longest(Due due) {
        StringBuilder text = new StringBuilder();
        for (int i = 0; i < 20; i++) {
            text.append("B").append(i).append("=9999,1>").append(i + 1).append(";");
        }
        due.that("20 belts", Due.machine(text + "S20=1;").time(0, 20), 20L * 9999000);
    }
}
