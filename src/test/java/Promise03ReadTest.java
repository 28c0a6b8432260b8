/** read: how many parts, or where the fault is. */
public final class Promise03ReadTest {
    public static void main(String[] args) {
        Due due = new Due();
        ordinary(due);
        everyCutIsAFaultAtTheEnd(due);
        everyCharacterThatCannotBe(due);
        numbersOutside(due);
        fiveDigits(due);
        namesAgain(due);
        twentyFifthPart(due);
        theFirstOfSeveral(due);
        textIsEmptyThen(due);
        machineStays(due);
        due.end();
    }

    private static void ordinary(Due due) {
        due.reads("F0=1>0;", 1);
        due.reads("B0=1,1>0;", 1);
        due.reads("R0=0>0;", 1);
        due.reads("G0=0>0,0;", 1);
        due.reads("S0=1;", 1);
        due.reads("F29=9999>29;B28=9999,9999>28;R27=9999>27;G26=9999>26,25;S25=999;", 5);
        due.reads("F0000=0001>0029;B0029=0001,0001>0000;R028=0000>01;G01=00>2,02;S02=0999;", 5);
        due.reads(Due.stackers(23), 23);
        due.reads(Due.stackers(24), 24);
    }

    private static void everyCutIsAFaultAtTheEnd(Due due) {
        for (String part : new String[] {"F12=34>5;", "B12=34,56>7;", "R1=2>3;", "G1=2>3,4;", "S1=20;"}) {
            for (int end = 0; end < part.length(); end++) {
                due.faultAt(end, part.substring(0, end));
                if (end > 0) {
                    due.faultAt(6 + end, "S29=1;" + part.substring(0, end));
                }
            }
        }
    }

    /** Each place of a part, with each character that is not the one there. */
    private static void everyCharacterThatCannotBe(Due due) {
        for (String part : new String[] {"F1=2>3;", "B1=2,3>4;", "R1=2>3;", "G1=2>3,4;", "S1=2;"}) {
            for (int place = 0; place < part.length(); place++) {
                for (char c = 32; c <= 126; c++) {
                    boolean digitMayBe = c >= '0' && c <= '9' && place > 0;
                    boolean letterMayBe = place == 0 && "FBRGS".indexOf(c) >= 0;
                    if (c != part.charAt(place) && !digitMayBe && !letterMayBe) {
                        due.faultAt(place, part.substring(0, place) + c + part.substring(place + 1));
                        due.faultAt(5 + place, "S0=1;" + part.substring(0, place) + c);
                    }
                }
            }
        }
        due.faultAt(0, " S0=1;");
        due.faultAt(0, "f0=1>0;");
        due.faultAt(5, "S0=1; ");
        due.faultAt(5, "S0=1;;");
        due.faultAt(4, "F0=1;");
        due.faultAt(6, "F0=1>2,3;");
        due.faultAt(4, "B0=1>1;");
        due.faultAt(6, "B0=1,1;");
        due.faultAt(4, "R0=1,2>3;");
        due.faultAt(6, "G0=1>2;");
        due.faultAt(8, "G0=1>2,3,4;");
        due.faultAt(4, "S0=1>2;");
        due.faultAt(3, "S0=-1;");
        due.faultAt(3, "S0=+1;");
    }

    private static void numbersOutside(Due due) {
        due.faultAt(1, "S30=1;");
        due.faultAt(1, "F030=1>1;");
        due.faultAt(1, "F9999=1>1;");
        due.faultAt(3, "F0=0>1;");
        due.faultAt(3, "F0=0000>1;");
        due.faultAt(5, "F0=1>30;");
        due.faultAt(5, "F0=1>0030;");
        due.faultAt(3, "B0=0,1>1;");
        due.faultAt(5, "B0=1,0>1;");
        due.faultAt(7, "B0=1,1>30;");
        due.faultAt(5, "R0=0>99;");
        due.faultAt(5, "G0=0>30,0;");
        due.faultAt(7, "G0=0>0,30;");
        due.faultAt(3, "S0=0;");
        due.faultAt(3, "S0=1000;");
        due.faultAt(3, "S0=9999;");
        // The number is all the digits that there are, also where the text ends behind them.
        due.faultAt(3, "F0=0");
        due.faultAt(1, "S30");
    }

    /** The fifth digit can't be there; a number of four that is not as said comes before it. */
    private static void fiveDigits(Due due) {
        due.faultAt(5, "S00000=1;");
        due.faultAt(5, "S00001=1;");
        due.faultAt(7, "F0=00011>1;");
        due.faultAt(7, "F0=10000>1;");
        due.faultAt(9, "F0=1>00001;");
        due.faultAt(7, "B0=99999,1>1;");
        due.faultAt(9, "B0=1,99999>1;");
        due.faultAt(7, "R0=00000>1;");
        due.faultAt(11, "G0=1>1,00001;");
        due.faultAt(7, "S0=09990;");
        due.faultAt(1, "S10000=1;");
        due.faultAt(3, "S0=10000;");
        due.faultAt(3, "F0=00001>1;");
    }

    private static void namesAgain(Due due) {
        due.faultAt(6, "S1=1;S1=2;");
        due.faultAt(6, "S1=1;S01=2;");
        due.faultAt(6, "S1=1;F0001=2>1;");
        due.faultAt(6, "S1=1;S1;");
        due.faultAt(6, "S1=1;S1");
        due.reads("S1=1;S11=2;", 2);
        // A name may go before = once, and behind > as often as it likes.
        due.reads("F1=1>3;F2=1>3;G4=1>3,3;S3=1;", 4);
    }

    private static void twentyFifthPart(Due due) {
        String full = Due.stackers(24);
        int end = full.length();
        due.faultAt(end, full + "S24=1;");
        due.faultAt(end, full + "S");
        due.faultAt(end, full + "S0=0");
        due.faultAt(end, full + "?");
        due.faultAt(end, full + ";");
        due.faultAt(end - 1, full.substring(0, end - 1) + "?");
    }

    private static void theFirstOfSeveral(Due due) {
        due.faultAt(3, "S0=0;S0=1;X");
        due.faultAt(6, "S0=1;S0=0;");
        due.faultAt(4, "S0=1S0=1;");
        due.faultAt(1, "S=;");
    }

    private static void textIsEmptyThen(Due due) {
        MachineText x = Due.machine("S0=1;S1=1;");
        due.that("read() of nothing behind a good one", x.read(), -1);
        due.that("a fault", Due.read(x, "S0=1;S0=1;"), -7);
        due.that("read() of nothing behind a fault", x.read(), -1);
        due.that("a good one behind a fault", Due.read(x, "S3=1;"), 1);
    }

    private static void machineStays(Due due) {
        MachineText x = Due.machine("F0=9>1;S1=5;");
        String[] faulty = {"", "S1=7;S2=8;S3=9;?", "G0=1>0,0;G1=1>0,0", "S0=1;S1=1;S2=1;S0=1;"};
        for (String text : faulty) {
            due.that("fault of " + text, Due.read(x, text) < 0, true);
            due.that("printed behind " + text, Due.printed(x), "F0=9>1;S1=5;");
            due.that("check() behind " + text, x.check(), 0);
            due.that("reach(1) behind " + text, x.reach(1), 1);
            due.that("gap(1) behind " + text, x.gap(1), 9);
            due.that("time(0, 2) behind " + text, x.time(0, 2), MachineText.UNKNOWN);
        }
        due.that("a smaller machine", Due.read(x, "S2=3;"), 1);
        due.that("printed", Due.printed(x), "S2=3;");
        due.that("gap(1) is gone", x.gap(1), MachineText.UNKNOWN);
        due.that("part(1, 0) is gone", x.part(1, 0), MachineText.NONE);
        due.that("faults", Due.faults(x), "5:2");
    }
}
