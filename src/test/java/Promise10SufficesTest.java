/** suffices: whether a gate's time is not above a gap. */
public final class Promise10SufficesTest {
    public static void main(String[] args) {
        Due due = new Due();
        MachineText x = Due.machine("F0=1>3;B1=1,1>3;R2=1>3;G3=50>4,4;S4=1;G5=0>4,4;G6=9999>4,7;");
        long[] gaps = {Long.MIN_VALUE, Integer.MIN_VALUE, -4294967246L, -1, 0, 1, 49, 50, 51, 9998, 9999, 10000,
            Integer.MAX_VALUE, 4294967296L, Long.MAX_VALUE};
        for (long gap : gaps) {
            due.that("suffices(3, " + gap + ")", x.suffices(3, gap), gap >= 50);
            due.that("suffices(5, " + gap + ")", x.suffices(5, gap), gap >= 0);
            due.that("suffices(6, " + gap + ")", x.suffices(6, gap), gap >= 9999);
            for (int other : new int[] {0, 1, 2, 4, 7, 29}) {
                due.that("suffices(" + other + ", " + gap + ")", x.suffices(other, gap), false);
            }
        }
        for (int wild : Due.WILD) {
            due.that("suffices(" + wild + ")", x.suffices(wild, Long.MAX_VALUE), false);
        }
        due.that("without a machine", new MachineText().suffices(0, Long.MAX_VALUE), false);
        due.end();
    }
}
