/** suffices: whether a gate's time is not above a gap. */
public final class Promise10SufficesTest {
    public static void main(String[] args) {
        Due due = new Due();
        MachineText x = Due.machine("F0=1>3;B1=1,1>3;R2=1>3;G3=50>4,4;S4=1;G5=0>4,4;G6=9999>4,7;");
        long[] gaps = {Long.MIN_VALUE, Integer.MIN_VALUE, -4294967246L, -1, 0, 1, 49, 50, 51, 9998, 9999, 10000,
            Integer.MAX_VALUE, 4294967296L, Long.MAX_VALUE};
        for (long gap : gaps) {
            due.that("suffices(3, " + gap + ")", x.suffices(3, gap), gap >= 50);
            due.that("suffices(5, " + gap + ")", x.suffices(5, gap), gap >= 0);
            due.that("suffices(6, " + gap + ")", x.suffices(6, gap), gap >= 9999);
            for (int other : new int[] {0, 1, 2, 4, 7, 29}) {
                due.that("suffices(" + other + ", " + gap + ")", x.suffices(other, gap), false);
            }
        }
        eachTime(due);
        for (int wild : Due.WILD) {
            due.that("suffices(" + wild + ")", x.suffices(wild, Long.MAX_VALUE), false);
        }
        due.that("without a machine", new MachineText().suffices(0, Long.MAX_VALUE), false);
        due.end();
    }

    /** "not above a gap": one below, at, and one above each time; a long's high half counts, too. */
    private static void eachTime(Due due) {
        for (int time : new int[] {0, 1, 2, 10, 999, 9998, 9999}) {
            MachineText x = Due.machine("G0=" + time + ">1,1;");
            due.that("gap below " + time, x.suffices(0, time - 1), false);
            due.that("gap " + time, x.suffices(0, time), true);
            due.that("gap above " + time, x.suffices(0, time + 1), true);
            due.that("a high half above 0", x.suffices(0, (1L << 32) + time - 1), true);
            due.that("a high half below 0", x.suffices(0, -(1L << 32) + time), false);
        }
        // No feeder has to reach the gate, and a gate's own gap is not asked for.
        due.that("a gate with a gap", Due.machine("F1=3>0;G0=5>2,2;").suffices(0, 5), true);
        due.that("a gate with a gap, below", Due.machine("F1=9>0;G0=5>2,2;").suffices(0, 4), false);
    }
}
