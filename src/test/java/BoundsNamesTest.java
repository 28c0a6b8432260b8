/** "Names are 0 .. 29, the same one stands before = once": each name, and each name again. */
public final class BoundsNamesTest {
    private final Due due = new Due();

    public static void main(String[] args) {
        BoundsNamesTest test = new BoundsNamesTest();
        test.everyNameOnce();
        test.theSameOneTwice();
        test.theSameOneWithZeros();
        test.theFirstAndTheLastPart();
        test.waysMayHaveTheSameOne();
        test.theNextTextHasAllNames();
        test.due.end();
    }

    private void everyNameOnce() {
        for (int kind = 0; kind < 5; kind++) {
            for (int name = 0; name <= 29; name++) {
                MachineText x = new MachineText();
                due.that("read", Due.read(x, Due.part(kind, String.valueOf(name))), 1);
                due.that("part(0, 0)", x.part(0, 0), kind);
                due.that("part(0, 1)", x.part(0, 1), name);
                due.that("gap of a name that is there", x.gap(name) != MachineText.UNKNOWN, true);
                due.that("gap of the next one", x.gap(name + 1), MachineText.UNKNOWN);
                due.that("gap of the one before", x.gap(name - 1), MachineText.UNKNOWN);
            }
            due.faultAt(1, Due.part(kind, "30"));
        }
    }

    /** "(or a name that was there), its first digit": of each two kinds, with each name. */
    private void theSameOneTwice() {
        for (int first = 0; first < 5; first++) {
            for (int second = 0; second < 5; second++) {
                for (int name = 0; name <= 29; name++) {
                    String one = Due.part(first, String.valueOf(name));
                    due.faultAt(one.length() + 1, one + Due.part(second, String.valueOf(name)));
                    due.reads(one + Due.part(second, String.valueOf((name + 1) % 30)), 2);
                }
            }
        }
    }

    private void theSameOneWithZeros() {
        String[] ones = {"1", "01", "001", "0001"};
        for (String first : ones) {
            for (String second : ones) {
                String part = Due.part(4, first);
                due.faultAt(part.length() + 1, part + Due.part(0, second));
                due.faultAt(part.length() + 1, part + "F" + second);
                due.faultAt(part.length() + 1, part + "F" + second + "?");
            }
        }
        // Their first digits are alike, the names are not.
        due.reads("S1=1;S10=1;S2=1;S20=1;S0=1;S021=1;", 6);
    }

    private void theFirstAndTheLastPart() {
        String most = Due.parts(4, 23);
        for (int name = 0; name <= 22; name++) {
            due.faultAt(most.length() + 1, most + Due.part(3, String.valueOf(name)));
        }
        due.reads(most + Due.part(3, "23"), 24);
        due.reads(most + Due.part(3, "29"), 24);
    }

    /** Behind > a name may stand as often as it likes, also before its part comes. */
    private void waysMayHaveTheSameOne() {
        due.reads("F0=1>0;", 1);
        due.reads("G5=1>5,5;", 1);
        due.reads("F1=1>5;F2=1>5;G3=0>5,5;S5=1;", 4);
        due.reads("S5=1;F1=1>5;F2=1>5;G3=0>5,5;", 4);
        due.reads("F1=1>5;R2=0>5;", 2);
    }

    /** Names are taken in one text alone: neither a good one nor a faulty one takes them from the next. */
    private void theNextTextHasAllNames() {
        MachineText x = Due.machine("S1=1;S2=1;");
        due.that("a good text behind a good one", Due.read(x, "S1=1;S2=1;"), 2);
        due.that("a faulty text", Due.read(x, "S3=1;S4=1;?"), -11);
        due.that("a good text behind a faulty one", Due.read(x, "S3=1;S4=1;S1=1;"), 3);
        due.that("a name twice", Due.read(x, "S3=1;S3=1;"), -7);
        due.that("a name of the machine that stayed", Due.read(x, "S3=1;"), 1);
        due.that("gap(4) of an older machine", x.gap(4), MachineText.UNKNOWN);
    }
}
