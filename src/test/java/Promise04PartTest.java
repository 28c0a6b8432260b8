/** part: what a part is, in the order of the text. */
public final class Promise04PartTest {
    private static final int NO = MachineText.NONE;
    private static final int[][] PARTS = {
        {3, 7, 0, NO, 7, 29},
        {1, 20, 9999, 1, 3, NO},
        {0, 3, 12, NO, 20, NO},
        {4, 0, 999, NO, NO, NO},
        {2, 29, 0, NO, 0, NO}
    };

    public static void main(String[] args) {
        Due due = new Due();
        MachineText x = Due.machine("G7=0>07,29;B20=9999,0001>3;F003=12>20;S0=0999;R29=0>0;");
        for (int i = 0; i < PARTS.length; i++) {
            for (int what = 0; what <= 5; what++) {
                due.that("part(" + i + ", " + what + ")", x.part(i, what), PARTS[i][what]);
            }
        }
        due.that("part(5, 0)", x.part(5, 0), NO);
        due.that("part(-1, 0)", x.part(-1, 0), NO);
        due.that("part(24, 1)", x.part(24, 1), NO);
        due.that("part(0, 6)", x.part(0, 6), MachineText.OUTSIDE);
        due.that("part(0, -1)", x.part(0, -1), MachineText.OUTSIDE);
        for (int wild : Due.WILD) {
            due.that("part(" + wild + ", 0)", x.part(wild, 0), NO);
            due.that("part(0, " + wild + ")", x.part(0, wild), MachineText.OUTSIDE);
            // A refusal goes before NONE.
            due.that("part(" + wild + ", 6)", x.part(wild, 6), MachineText.OUTSIDE);
        }
        due.that("part(0, 6) without a machine", new MachineText().part(0, 6), MachineText.OUTSIDE);
        waysToNowhereHaveNames(due);
        nothingOfAnOlderMachine(due);
        due.end();
    }

    private static void waysToNowhereHaveNames(Due due) {
        MachineText x = Due.machine("G0=5>11,12;");
        due.that("part(0, 4)", x.part(0, 4), 11);
        due.that("part(0, 5)", x.part(0, 5), 12);
    }

    private static void nothingOfAnOlderMachine(Due due) {
        MachineText x = Due.machine("G0=5>1,2;B1=1,2>3;");
        Due.read(x, "S0=1;S1=2;");
        Due.read(x, "S0=1;S1=2;");
        for (int what = 3; what <= 5; what++) {
            due.that("part(0, " + what + ")", x.part(0, what), NO);
            due.that("part(1, " + what + ")", x.part(1, what), NO);
        }
    }
}
