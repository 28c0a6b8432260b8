/** "FAULTS OF THE MACHINE": each kind on its bound and on the nearest machine beyond it, and their order. */
public final class BoundsMachineFaultsTest {
    private final Due due = new Due();

    public static void main(String[] args) {
        BoundsMachineFaultsTest test = new BoundsMachineFaultsTest();
        test.eachWayThatGoesNowhere();
        test.timeAboveTheGap();
        test.timeAboveTheLeastGap();
        test.reachedByAFeederAtAll();
        test.aWayToAGate();
        test.reachesItself();
        test.noFeederReachesIt();
        test.aFeederThatSomePartReaches();
        test.byKindsThenPartsThenWays();
        test.asManyAsCanBe();
        test.noneAtAll();
        test.due.end();
    }

    private void has(String want, String text) {
        MachineText x = Due.machine(text);
        due.that("faults of " + text, Due.faults(x), want);
        due.that("check() of " + text, x.check(), want.isEmpty() ? 0 : want.split(" ").length);
    }

    /** "of kind 1 each way that goes nowhere": none, one and both of a gate's; of each kind with ways. */
    private void eachWayThatGoesNowhere() {
        has("5:1", "G0=0>1,1;S1=1;");
        has("1:0.0 5:1", "G0=0>2,1;S1=1;");
        has("1:0.1 5:1", "G0=0>1,2;S1=1;");
        has("1:0.0 1:0.1 5:1", "G0=0>2,2;S1=1;");
        has("1:0.0 1:0.1 5:1", "G0=0>2,29;S1=1;");
        String[] parts = {"F0=1>#;", "B0=1,1>#;", "R0=0>#;"};
        for (String part : parts) {
            has("1:0.0 4:1", part.replace("#", "2") + "R1=0>1;");
            has("1:0.0 4:28", part.replace("#", "29") + "R28=0>28;");
            has("4:29", part.replace("#", "29") + "R29=0>29;");
        }
        has("1:1.0 4:0", "R1=0>2;R0=0>0;");
        // A stacker has no way that could go nowhere.
        has("5:0", "S0=1;");
    }

    /** "2 each gate that is reached by a feeder and whose time is above its gap": below, at, above. */
    private void timeAboveTheGap() {
        for (int gap : new int[] {1, 2, 50, 9998, 9999}) {
            for (int time = Math.max(0, gap - 2); time <= Math.min(9999, gap + 2); time++) {
                has(time > gap ? "2:1" : "", "F0=" + gap + ">1;G1=" + time + ">2,2;S2=1;");
            }
        }
        has("", "F0=1>1;G1=0>2,2;S2=1;");
        has("2:1", "F0=1>1;G1=9999>2,2;S2=1;");
        has("", "F0=9999>1;G1=9999>2,2;S2=1;");
    }

    private void timeAboveTheLeastGap() {
        has("", "F0=9>1;F3=9>1;G1=9>2,2;S2=1;");
        has("2:1", "F0=9>1;F3=8>1;G1=9>2,2;S2=1;");
        has("2:1", "F3=8>1;F0=9>1;G1=9>2,2;S2=1;");
        // The feeder with the least gap goes elsewhere.
        has("", "F3=8>4;F0=9>1;G1=9>2,2;S2=1;S4=1;");
        // A reader's time on the way is no gap.
        has("2:4", "F0=9>1;R1=99>4;G4=10>2,2;S2=1;");
        has("", "F0=9>1;R1=1>4;G4=9>2,2;S2=1;");
    }

    private void reachedByAFeederAtAll() {
        has("5:2", "G1=9999>2,2;S2=1;");
        has("5:2", "R0=1>1;G1=9999>2,2;S2=1;");
        has("1:0.0 5:2", "F0=1>3;G1=9999>2,2;S2=1;");
        has("2:1", "F0=1>3;R3=0>1;G1=2>2,2;S2=1;");
        has("", "F0=1>3;R3=0>1;G1=1>2,2;S2=1;");
    }

    /** "3 each gate one of whose ways goes to a gate (also itself)": straight, and with one part between. */
    private void aWayToAGate() {
        has("3:1", "F0=9>1;G1=0>2,3;G2=0>3,3;S3=1;");
        has("3:1", "F0=9>1;G1=0>3,2;G2=0>3,3;S3=1;");
        has("3:1", "F0=9>1;G1=0>2,2;G2=0>3,3;S3=1;");
        has("", "F0=9>1;G1=0>3,4;R4=0>2;G2=0>3,3;S3=1;");
        has("", "F0=9>1;G1=0>4,3;B4=1,1>2;G2=0>3,3;S3=1;");
        has("3:1 4:1", "F0=9>1;G1=0>1,3;S3=1;");
        has("3:1 4:1", "F0=9>1;G1=0>3,1;S3=1;");
        has("4:1 4:4", "F0=9>1;G1=0>3,4;R4=0>1;S3=1;");
        has("3:1 5:3", "G1=0>2,3;G2=0>3,3;S3=1;");
        // The first way goes nowhere, the second one to a gate.
        has("1:1.0 3:1", "F0=9>1;G1=0>9,2;G2=0>3,3;S3=1;");
        has("1:1.0 1:1.1", "F0=9>1;G1=0>9,9;");
    }

    /** "4 each part that reaches itself": in the round, before it and behind it; each kind with ways. */
    private void reachesItself() {
        has("4:0 6:0", "F0=1>0;");
        has("4:0", "B0=1,1>0;");
        has("4:0", "R0=0>0;");
        has("3:0 4:0", "G0=0>0,0;");
        has("1:0.0 3:0 4:0", "G0=0>1,0;");
        has("1:0.0", "R0=0>1;");
        has("4:1 4:2", "R0=0>1;R1=0>2;R2=0>1;");
        has("4:0 4:1 5:2", "R0=0>1;G1=0>0,2;S2=1;");
        has("4:1 4:2 5:4", "R1=0>2;G2=0>1,3;R3=0>4;S4=1;");
    }

    /** "5 each stacker that no feeder reaches": no part, another part, a feeder. */
    private void noFeederReachesIt() {
        has("5:1", "S1=1;");
        has("5:1", "R0=0>1;S1=1;");
        has("", "F0=1>1;S1=1;");
        has("", "F2=1>0;R0=0>1;S1=1;");
        has("1:2.0 5:1", "F2=1>3;R0=0>1;S1=1;");
        has("5:4", "F2=1>0;R0=0>1;S1=1;R3=0>4;S4=1;");
    }

    /** "6 each feeder that some part reaches": none, itself, a feeder, another part. */
    private void aFeederThatSomePartReaches() {
        has("", "F0=1>1;S1=1;");
        has("4:0 6:0", "F0=1>0;");
        has("6:0", "F0=1>1;S1=1;F2=1>0;");
        has("6:0", "R2=0>0;F0=1>1;S1=1;");
        has("6:0", "R3=0>2;B2=1,1>0;F0=1>1;S1=1;");
        has("1:2.0", "R2=0>3;F0=1>1;S1=1;");
        has("6:0", "G2=0>1,0;F0=1>1;S1=1;");
    }

    /** "Those of one kind by parts as they stand in the text, then by ways": two of each kind. */
    private void byKindsThenPartsThenWays() {
        String text = "S28=1;G9=2>29,9;F7=1>3;G3=2>4,29;F1=1>7;G4=2>9,1;S2=1;";
        has("1:9.0 1:3.1 2:9 2:3 2:4 3:9 3:3 3:4 4:9 4:7 4:3 4:1 4:4 5:28 5:2 6:7 6:1", text);
        String turned = "S2=1;G4=2>9,1;F1=1>7;G3=2>4,29;F7=1>3;G9=2>29,9;S28=1;";
        has("1:3.1 1:9.0 2:4 2:3 2:9 3:4 3:3 3:9 4:4 4:1 4:3 4:7 4:9 5:2 5:28 6:1 6:7", turned);
        has("1:5.0 1:5.1 1:0.0 1:0.1", "G5=0>9,8;G0=0>8,9;");
    }

    /** 24 parts with 93 faults, each asked for, and the first that is not there. */
    private void asManyAsCanBe() {
        String text = slowRound();
        due.that("check()", Due.machine(text).check(), 93);
        for (int what = 0; what <= 2; what++) {
            MachineText x = Due.machine(text);
            for (int i = 0; i < 93; i++) {
                due.that("fault(" + i + ", " + what + ")", x.fault(i, what), slowRoundFault(i)[what]);
            }
            due.that("fault(93, " + what + ")", x.fault(93, what), MachineText.NONE);
        }
    }

    /** A feeder and 23 slow gates in a round; all but the last have a second way to nowhere. */
    private static String slowRound() {
        StringBuilder out = new StringBuilder("F0=1>1;");
        for (int i = 1; i <= 22; i++) {
            out.append("G").append(i).append("=2>").append(i + 1).append(",29;");
        }
        return out.append("G23=2>23,0;").toString();
    }

    private static int[] slowRoundFault(int i) {
        if (i < 22) {
            return new int[] {1, 1 + i, 1};
        }
        if (i < 22 + 23) {
            return new int[] {2, 1 + i - 22, -1};
        }
        if (i < 22 + 23 + 23) {
            return new int[] {3, 1 + i - 45, -1};
        }
        return i < 92 ? new int[] {4, i - 68, -1} : new int[] {6, 0, -1};
    }

    private void noneAtAll() {
        MachineText x = Due.machine("F0=1>1;S1=1;");
        due.that("check()", x.check(), 0);
        for (int what = 0; what <= 2; what++) {
            due.that("fault(0, " + what + ")", x.fault(0, what), MachineText.NONE);
            due.that("fault(-1, " + what + ")", x.fault(-1, what), MachineText.NONE);
        }
    }
}
