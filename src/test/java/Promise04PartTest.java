/** part: what a part is, in the order of the text. */
public final class Promise04PartTest {
    private static final int NO = MachineText.NONE;
    private static final int[][] PARTS = {
        {3, 7, 0, NO, 7, 29},
        {1, 20, 9999, 1, 3, NO},
        {0, 3, 12, NO, 20, NO},
        {4, 0, 999, NO, NO, NO},
        {2, 29, 0, NO, 0, NO}
    };

    public static void main(String[] args) {
        Due due = new Due();
        MachineText x = Due.machine("G7=0>07,29;B20=9999,0001>3;F003=12>20;S0=0999;R29=0>0;");
        for (int i = 0; i < PARTS.length; i++) {
            for (int what = 0; what <= 5; what++) {
                due.that("part(" + i + ", " + what + ")", x.part(i, what), PARTS[i][what]);
            }
        }
        due.that("part(5, 0)", x.part(5, 0), NO);
        due.that("part(-1, 0)", x.part(-1, 0), NO);
        due.that("part(24, 1)", x.part(24, 1), NO);
        due.that("part(0, 6)", x.part(0, 6), MachineText.OUTSIDE);
        due.that("part(0, -1)", x.part(0, -1), MachineText.OUTSIDE);
        for (int wild : Due.WILD) {
            due.that("part(" + wild + ", 0)", x.part(wild, 0), NO);
            due.that("part(0, " + wild + ")", x.part(0, wild), MachineText.OUTSIDE);
            // A refusal goes before NONE.
            due.that("part(" + wild + ", 6)", x.part(wild, 6), MachineText.OUTSIDE);
        }
        due.that("part(0, 6) without a machine", new MachineText().part(0, 6), MachineText.OUTSIDE);
        waysToNowhereHaveNames(due);
        nothingOfAnOlderMachine(due);
        firstAndLastPart(due);
        leastAndLargestNumbers(due);
        due.end();
    }

    private static void waysToNowhereHaveNames(Due due) {
        MachineText x = Due.machine("G0=5>11,12;");
        due.that("part(0, 4)", x.part(0, 4), 11);
        due.that("part(0, 5)", x.part(0, 5), 12);
    }

    /** "Part i (0 the first)", "NONE when there is none such": of one part, and of as many as can be. */
    private static void firstAndLastPart(Due due) {
        for (int count : new int[] {1, 2, 23, 24}) {
            MachineText x = Due.machine(Due.stackers(count));
            for (int what = 0; what <= 5; what++) {
                due.that("part(-1, " + what + ") of " + count, x.part(-1, what), NO);
                due.that("part(" + count + ", " + what + ")", x.part(count, what), NO);
            }
            due.that("part(0, 1) of " + count, x.part(0, 1), 0);
            due.that("the last one's kind of " + count, x.part(count - 1, 0), 4);
            due.that("the last one's name of " + count, x.part(count - 1, 1), count - 1);
            due.that("the last one's height of " + count, x.part(count - 1, 2), 1);
        }
    }

    /** Each kind with the least numbers it may have, and with the largest. */
    private static void leastAndLargestNumbers(Due due) {
        String[] texts = {"F0=1>0;", "F29=9999>29;", "B0=1,1>0;", "B29=9999,9999>29;", "R0=0>0;", "R29=9999>29;",
            "G0=0>0,0;", "G29=9999>29,29;", "S0=1;", "S29=999;"};
        int[][] want = {{0, 0, 1, NO, 0, NO}, {0, 29, 9999, NO, 29, NO}, {1, 0, 1, 1, 0, NO},
            {1, 29, 9999, 9999, 29, NO}, {2, 0, 0, NO, 0, NO}, {2, 29, 9999, NO, 29, NO}, {3, 0, 0, NO, 0, 0},
            {3, 29, 9999, NO, 29, 29}, {4, 0, 1, NO, NO, NO}, {4, 29, 999, NO, NO, NO}};
        for (int i = 0; i < texts.length; i++) {
            MachineText x = Due.machine(texts[i]);
            for (int what = 0; what <= 5; what++) {
                due.that("part(0, " + what + ") of " + texts[i], x.part(0, what), want[i][what]);
            }
        }
    }

    private static void nothingOfAnOlderMachine(Due due) {
        MachineText x = Due.machine("G0=5>1,2;B1=1,2>3;");
        Due.read(x, "S0=1;S1=2;");
        Due.read(x, "S0=1;S1=2;");
        for (int what = 3; what <= 5; what++) {
            due.that("part(0, " + what + ")", x.part(0, what), NO);
            due.that("part(1, " + what + ")", x.part(1, what), NO);
        }
    }
}
