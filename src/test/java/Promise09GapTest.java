/** gap: the least gap of the feeders that reach a part. */
public final class Promise09GapTest {
    public static void main(String[] args) {
        Due due = new Due();
        MachineText x = Due.machine(
            "F0=50>2;F1=40>3;R2=0>3;G3=9>4,5;S4=1;S5=1;R6=0>7;S7=1;F8=9999>9;F9=7>10;S10=1;");
        long[][] gaps = {{0, -1}, {1, -1}, {2, 50}, {3, 40}, {4, 40}, {5, 40}, {6, -1}, {7, -1}, {8, -1},
            {9, 9999}, {10, 7}};
        for (long[] row : gaps) {
            due.that("gap(" + row[0] + ")", x.gap((int) row[0]), row[1]);
        }
        for (int name = 11; name < 30; name++) {
            due.that("gap(" + name + ")", x.gap(name), MachineText.UNKNOWN);
        }
        for (int wild : Due.WILD) {
            due.that("gap(" + wild + ")", x.gap(wild), MachineText.UNKNOWN);
        }
        due.that("a feeder that reaches itself", Due.machine("F0=6>1;R1=0>0;").gap(0), 6);
        due.that("a feeder straight to itself", Due.machine("F0=6>0;").gap(0), 6);
        due.that("the least one comes first", Due.machine("F0=3>2;F1=4>2;S2=1;").gap(2), 3);
        due.that("the least one comes last", Due.machine("F0=4>2;F1=3>2;S2=1;").gap(2), 3);
        due.that("feeders behind feeders", Due.machine("F0=2>1;F1=4>2;S2=1;").gap(2), 2);
        due.that("a way's name is no part", Due.machine("F0=3>5;").gap(5), MachineText.UNKNOWN);
        due.end();
    }
}
