/** reach: whether a feeder reaches a stacker. */
public final class Promise07ReachTest {
    public static void main(String[] args) {
        Due due = new Due();
        MachineText x = Due.machine(
            "S4=1;F0=5>1;B1=1,1>2;R2=0>3;G3=5>4,5;S5=1;S6=1;R7=1>8;S8=1;F9=1>10;");
        due.that("reach(4)", x.reach(4), 1);
        due.that("reach(5)", x.reach(5), 1);
        due.that("reach(6), no way leads there", x.reach(6), 0);
        due.that("reach(8), no feeder's way", x.reach(8), 0);
        for (int name : new int[] {0, 1, 2, 3, 7, 9}) {
            due.that("reach(" + name + ")", x.reach(name), MachineText.STATE);
        }
        due.that("reach(10), but a way's name", x.reach(10), MachineText.UNKNOWN);
        due.that("reach(29)", x.reach(29), MachineText.UNKNOWN);
        for (int wild : Due.WILD) {
            due.that("reach(" + wild + ")", x.reach(wild), MachineText.UNKNOWN);
        }
        due.that("reach(0) without a machine", new MachineText().reach(0), MachineText.UNKNOWN);
        longestChain(due);
        eachBin(due);
        due.end();
    }

    /** Each name of a stacker, where a feeder goes there and where it goes to the one beside it. */
    private static void eachBin(Due due) {
        for (int bin = 1; bin <= 29; bin++) {
            due.that("reach(" + bin + ")", Due.machine("F0=1>" + bin + ";S" + bin + "=1;").reach(bin), 1);
            due.that("reach(" + bin + ") beside", Due.machine("F0=1>" + (bin - 1) + ";S" + bin + "=1;").reach(bin), 0);
        }
        due.that("reach(0)", Due.machine("F29=1>0;S0=1;").reach(0), 1);
        due.that("reach(0) beside", Due.machine("F29=1>1;S0=1;").reach(0), 0);
    }

    /** 24 parts, written from the end to the feeder. */
    private static void longestChain(Due due) {
        StringBuilder text = new StringBuilder("S23=1;");
        for (int i = 22; i > 0; i--) {
            text.append("R").append(i).append("=0>").append(i + 1).append(";");
        }
        due.that("reach(23)", Due.machine(text + "F0=1>1;").reach(23), 1);
        due.that("reach(23) with a gap in it", Due.machine(text + "F0=1>24;").reach(23), 0);
    }
}
