/** "An object is used for at most 512 calls after it has been made": each answer up to the 512th is due. */
public final class BoundsCallsTest {
    private static final int CALLS = 512;

    private final Due due = new Due();

    public static void main(String[] args) {
        BoundsCallsTest test = new BoundsCallsTest();
        test.signsAlone();
        test.readsAlone();
        test.fullTextThenAsked();
        test.manyMachines();
        test.manyFaultyTexts();
        test.manyPrints();
        test.due.end();
    }

    private void signsAlone() {
        MachineText x = new MachineText();
        for (int call = 1; call <= CALLS; call++) {
            due.that("sign, call " + call, x.sign('S'), call <= 300);
        }
    }

    private void readsAlone() {
        MachineText x = new MachineText();
        for (int call = 1; call <= CALLS; call++) {
            due.that("read(), call " + call, x.read(), -1);
        }
    }

    private void fullTextThenAsked() {
        MachineText x = Due.machine(Due.fullText());
        due.that("print()", x.print(), 188);
        for (int call = 303; call <= CALLS; call++) {
            due.that("time(10, 23), call " + call, x.time(10, 23), 0);
        }
    }

    /** 6 calls each: the 85th machine is there with call 510. */
    private void manyMachines() {
        MachineText x = new MachineText();
        for (int n = 0; n < 85; n++) {
            due.that("read() of machine " + n, Due.read(x, "S" + n % 10 + "=1;"), 1);
        }
        due.that("reach(4), call 511", x.reach(4), 0);
        due.that("reach(3), call 512", x.reach(3), MachineText.UNKNOWN);
    }

    private void manyFaultyTexts() {
        MachineText x = Due.machine("S8=5;");
        for (int n = 0; n < 84; n++) {
            due.that("read() of text " + n, Due.read(x, "S" + n % 8 + "=1?"), -5);
        }
        due.that("part(0, 1), call 511", x.part(0, 1), 8);
        due.that("check(), call 512", x.check(), 1);
    }

    private void manyPrints() {
        MachineText x = Due.machine("S8=5;");
        for (int call = 7; call <= CALLS - 1; call++) {
            due.that("print(), call " + call, x.print(), 5);
        }
        due.that("at(4), call 512", x.at(4), ';');
    }
}
