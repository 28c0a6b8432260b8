/** check: how many faults the machine has. */
public final class Promise05CheckTest {
    public static void main(String[] args) {
        Due due = new Due();
        counts(due, 0, "F0=1>1;S1=1;");
        counts(due, 0, "F0=50>1;B1=1,1>2;R2=0>3;G3=50>4,5;S4=1;S5=1;");
        counts(due, 1, "F0=1>2;");
        counts(due, 2, "G0=0>1,2;");
        counts(due, 24, Due.stackers(24));
        counts(due, 2, "F0=1>0;");
        counts(due, 2, "G0=1>0,0;");
        counts(due, 48, gatesToNowhere());
        counts(due, 70, ringOfGates());
        countIsOfTheLatestMachine(due);
        due.that("check() without a machine", new MachineText().check(), MachineText.NONE);
        MachineText x = new MachineText();
        Due.read(x, "S0=0;");
        due.that("check() behind a fault alone", x.check(), MachineText.NONE);
        due.end();
    }

    private static void counts(Due due, int want, String text) {
        MachineText x = Due.machine(text);
        due.that("check() of " + text, x.check(), want);
        due.that("check() again of " + text, x.check(), want);
    }

    private static void countIsOfTheLatestMachine(Due due) {
        MachineText x = Due.machine(Due.stackers(5));
        due.that("check() of five", x.check(), 5);
        Due.read(x, "S0=1;");
        due.that("check() of one", x.check(), 1);
        Due.read(x, "F0=1>1;S1=1;");
        due.that("check() of a good one", x.check(), 0);
    }

    /** 24 gates with 48 ways, none of which goes anywhere. */
    private static String gatesToNowhere() {
        StringBuilder out = new StringBuilder();
        for (int i = 0; i < 24; i++) {
            out.append("G").append(i).append("=0>29,29;");
        }
        return out.toString();
    }

    /** A feeder and 23 gates in a ring, each too slow, before a gate and in the round: 3 * 23, and a way. */
    private static String ringOfGates() {
        StringBuilder out = new StringBuilder("F0=1>1;");
        for (int i = 1; i <= 23; i++) {
            int next = i == 23 ? 1 : i + 1;
            out.append("G").append(i).append("=2>").append(next).append(",").append(i == 5 ? 29 : next).append(";");
        }
        return out.toString();
    }
}
