/** A new object has no text and no machine. */
public final class Promise01NewObjectTest {
    public static void main(String[] args) {
        Due due = new Due();
        due.that("read()", new MachineText().read(), -1);
        MachineText x = new MachineText();
        due.that("check()", x.check(), MachineText.NONE);
        due.that("at(0)", x.at(0), MachineText.NONE);
        due.that("print()", x.print(), 0);
        due.that("at(0) behind print()", x.at(0), MachineText.NONE);
        for (int what = 0; what <= 5; what++) {
            due.that("part(0, " + what + ")", x.part(0, what), MachineText.NONE);
        }
        for (int what = 0; what <= 2; what++) {
            due.that("fault(0, " + what + ")", x.fault(0, what), MachineText.NONE);
        }
        for (int name = 0; name < 30; name++) {
            due.that("reach(" + name + ")", x.reach(name), MachineText.UNKNOWN);
            due.that("gap(" + name + ")", x.gap(name), MachineText.UNKNOWN);
            due.that("time(" + name + ", same)", x.time(name, name), MachineText.UNKNOWN);
            due.that("suffices(" + name + ")", x.suffices(name, Long.MAX_VALUE), false);
        }
        twoObjectsAreApart(due);
        due.end();
    }

    private static void twoObjectsAreApart(Due due) {
        MachineText x = Due.machine("S1=5;");
        MachineText y = new MachineText();
        due.that("check() of the other one", y.check(), MachineText.NONE);
        due.that("print() of the other one", y.print(), 0);
        x.sign('S');
        due.that("read() of the other one", y.read(), -1);
    }
}
