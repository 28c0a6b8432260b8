/** "REFUSALS": who refuses what, which one goes first, and that a refused call changes nothing. */
public final class BoundsRefusalsTest {
    private static final int UNKNOWN = MachineText.UNKNOWN, OUTSIDE = MachineText.OUTSIDE;
    private static final int STATE = MachineText.STATE, NONE = MachineText.NONE;

    private final Due due = new Due();

    public static void main(String[] args) {
        BoundsRefusalsTest test = new BoundsRefusalsTest();
        test.unknownNames();
        test.unknownGoesBeforeState();
        test.stateOfEachKind();
        test.whatOutside();
        test.outsideAndNoneSuch();
        test.withoutAMachine();
        test.refusedCallsChangeNothing();
        test.refusedSignsChangeNothing();
        test.due.end();
    }

    /** "UNKNOWN (there is no such part by its name)": names 0 and 29, there and not there, -1 and 30. */
    private void unknownNames() {
        MachineText ends = Due.machine("S0=1;S29=1;");
        due.that("reach(0)", ends.reach(0), 0);
        due.that("reach(29)", ends.reach(29), 0);
        due.that("gap(0)", ends.gap(0), NONE);
        due.that("gap(29)", ends.gap(29), NONE);
        due.that("time(0, 29)", ends.time(0, 29), NONE);
        due.that("time(29, 29)", ends.time(29, 29), 0);
        for (int name : new int[] {-1, 1, 28, 30}) {
            unknown(ends, 0, name);
        }
        for (int wild : Due.WILD) {
            unknown(ends, 29, wild);
        }
        // A place is no name, and a way's name is no part.
        MachineText x = Due.machine("F5=1>9;S6=1;");
        for (int name : new int[] {0, 1, 4, 7, 9}) {
            unknown(x, 5, name);
        }
    }

    private void unknown(MachineText x, int known, int name) {
        due.that("reach(" + name + ")", x.reach(name), UNKNOWN);
        due.that("gap(" + name + ")", x.gap(name), UNKNOWN);
        due.that("time(" + name + ", " + known + ")", x.time(name, known), UNKNOWN);
        due.that("time(" + known + ", " + name + ")", x.time(known, name), UNKNOWN);
        due.that("time(" + name + ", " + name + ")", x.time(name, name), UNKNOWN);
        due.that("suffices(" + name + ")", x.suffices(name, Long.MAX_VALUE), false);
    }

    /** "of several the first one here": what is not there is no stacker either. */
    private void unknownGoesBeforeState() {
        MachineText x = Due.machine("G3=0>4,4;");
        due.that("reach(4), a way's name", x.reach(4), UNKNOWN);
        due.that("reach(2)", x.reach(2), UNKNOWN);
        due.that("reach(3)", x.reach(3), STATE);
        Due.read(x, "S4=1;");
        due.that("reach(3), of an older machine", x.reach(3), UNKNOWN);
        due.that("reach(4)", x.reach(4), 0);
    }

    /** "STATE (it is none)": each kind but the stacker, also where a feeder reaches it. */
    private void stateOfEachKind() {
        MachineText x = Due.machine("F0=1>1;B1=1,1>2;R2=0>3;G3=0>4,5;S4=1;S6=1;B7=1,1>8;R8=0>9;G9=0>4,4;");
        int[] want = {STATE, STATE, STATE, STATE, 1, UNKNOWN, 0, STATE, STATE, STATE};
        for (int name = 0; name < want.length; name++) {
            due.that("reach(" + name + ")", x.reach(name), want[name]);
        }
        due.that("a feeder that is reached", Due.machine("F0=1>0;").reach(0), STATE);
    }

    /** "OUTSIDE (what)": the least and the largest what, one below and one above, of each part. */
    private void whatOutside() {
        MachineText x = Due.machine("F0=1>9;B1=1,1>9;R2=0>9;G3=0>9,9;S4=1;");
        for (int i = 0; i < 5; i++) {
            due.that("part(" + i + ", -1)", x.part(i, -1), OUTSIDE);
            due.that("part(" + i + ", 0)", x.part(i, 0), i);
            due.that("part(" + i + ", 5)", x.part(i, 5), i == 3 ? 9 : NONE);
            due.that("part(" + i + ", 6)", x.part(i, 6), OUTSIDE);
            due.that("fault(" + i + ", -1)", x.fault(i, -1), OUTSIDE);
            due.that("fault(" + i + ", 0)", x.fault(i, 0), 1);
            due.that("fault(" + i + ", 2)", x.fault(i, 2), i == 4 ? 1 : 0);
            due.that("fault(" + i + ", 3)", x.fault(i, 3), OUTSIDE);
            due.that("fault(" + i + ", 5)", x.fault(i, 5), OUTSIDE);
        }
        for (int wild : Due.WILD) {
            due.that("part(0, " + wild + ")", x.part(0, wild), OUTSIDE);
            due.that("fault(0, " + wild + ")", x.fault(0, wild), OUTSIDE);
        }
    }

    /** NONE is no refusal, so a refusal goes before it. */
    private void outsideAndNoneSuch() {
        MachineText x = Due.machine("S0=1;");
        for (int i : new int[] {-1, 1, 24, 168, Integer.MIN_VALUE, Integer.MAX_VALUE}) {
            due.that("part(" + i + ", 0)", x.part(i, 0), NONE);
            due.that("part(" + i + ", 5)", x.part(i, 5), NONE);
            due.that("part(" + i + ", 6)", x.part(i, 6), OUTSIDE);
            due.that("part(" + i + ", -1)", x.part(i, -1), OUTSIDE);
            due.that("fault(" + i + ", 0)", x.fault(i, 0), NONE);
            due.that("fault(" + i + ", 2)", x.fault(i, 2), NONE);
            due.that("fault(" + i + ", 3)", x.fault(i, 3), OUTSIDE);
            due.that("fault(" + i + ", -1)", x.fault(i, -1), OUTSIDE);
        }
    }

    private void withoutAMachine() {
        MachineText fresh = new MachineText();
        MachineText faulty = new MachineText();
        Due.read(faulty, "S0=1;F1=1>0;G2=0>0,0;?");
        for (MachineText x : new MachineText[] {fresh, faulty}) {
            due.that("check()", x.check(), NONE);
            due.that("print()", x.print(), 0);
            due.that("at(0)", x.at(0), NONE);
            for (int name : new int[] {-1, 0, 1, 2, 29, 30}) {
                unknown(x, 0, name);
                due.that("part", x.part(name, 0), NONE);
                due.that("fault", x.fault(name, 0), NONE);
            }
            due.that("part(0, 6)", x.part(0, 6), OUTSIDE);
            due.that("fault(0, 3)", x.fault(0, 3), OUTSIDE);
        }
    }

    /** Neither the machine, nor what was printed, nor the text that is being signed. */
    private void refusedCallsChangeNothing() {
        MachineText x = Due.machine("F0=2>2;G2=1>0,3;");
        x.print();
        String before = Due.state(x);
        Due.signAll(x, "S1");
        for (int wild : new int[] {Integer.MIN_VALUE, -1, 30, Integer.MAX_VALUE}) {
            x.part(0, wild);
            x.part(wild, 0);
            x.fault(0, wild);
            x.fault(wild, 0);
            x.reach(wild);
            x.time(wild, 0);
            x.time(0, wild);
            x.gap(wild);
            x.suffices(wild, wild);
            x.at(wild);
        }
        x.reach(0);
        due.that("state behind refused calls", Due.state(x), before);
        Due.signAll(x, "=7;");
        due.that("read()", x.read(), 1);
        due.that("printed", Due.printed(x), "S1=7;");
    }

    private void refusedSignsChangeNothing() {
        MachineText x = new MachineText();
        for (char c : "S1=7;".toCharArray()) {
            for (int wild : new int[] {31, 127, 0, 10, -1, 128, 256 + '1', 65536 + '1', '1' - 65536, Integer.MAX_VALUE}) {
                due.that("sign(" + wild + ")", x.sign(wild), false);
            }
            due.that("sign(" + c + ")", x.sign(c), true);
        }
        due.that("sign(31) behind it", x.sign(31), false);
        due.that("read()", x.read(), 1);
        due.that("printed", Due.printed(x), "S1=7;");
    }
}
