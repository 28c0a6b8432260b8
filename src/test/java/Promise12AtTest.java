/** at: what was printed latest, character by character. */
public final class Promise12AtTest {
    public static void main(String[] args) {
        Due due = new Due();
        String text = "G12=0>29,3;";
        MachineText x = Due.machine(text);
        due.that("at(0) before any print()", x.at(0), MachineText.NONE);
        due.that("print()", x.print(), text.length());
        for (int i = 0; i < text.length(); i++) {
            due.that("at(" + i + ")", x.at(i), text.charAt(i));
        }
        due.that("at(-1)", x.at(-1), MachineText.NONE);
        due.that("at(the length)", x.at(text.length()), MachineText.NONE);
        for (int wild : Due.WILD) {
            due.that("at(" + wild + ")", x.at(wild), MachineText.NONE);
        }
        latestPrintStays(due, x, text);
        lastOfThreeHundred(due);
        nothingPrinted(due);
        due.end();
    }

    /** The largest place that there can be, and the one beyond it. */
    private static void lastOfThreeHundred(Due due) {
        MachineText x = Due.machine(Promise11PrintTest.threeHundred());
        due.that("at(299) before print()", x.at(299), MachineText.NONE);
        due.that("print()", x.print(), 300);
        due.that("at(0)", x.at(0), 'B');
        due.that("at(298)", x.at(298), '0');
        due.that("at(299)", x.at(299), ';');
        due.that("at(300)", x.at(300), MachineText.NONE);
        due.that("at(-1)", x.at(-1), MachineText.NONE);
    }

    private static void nothingPrinted(Due due) {
        MachineText x = new MachineText();
        due.that("at(0) of a new object", x.at(0), MachineText.NONE);
        Due.signAll(x, "S0=1;");
        due.that("at(0) of a text that is not read", x.at(0), MachineText.NONE);
        due.that("print() without a machine", x.print(), 0);
        due.that("at(0) of nothing printed", x.at(0), MachineText.NONE);
        due.that("read()", x.read(), 1);
        due.that("at(0) of a machine not printed", x.at(0), MachineText.NONE);
        due.that("print()", x.print(), 5);
        due.that("at(0)", x.at(0), 'S');
    }

    private static void latestPrintStays(Due due, MachineText x, String text) {
        Due.read(x, "S0=7;");
        due.that("at(1) behind read()", x.at(1), '1');
        due.that("at(10) behind read()", x.at(10), ';');
        Due.read(x, "?");
        due.that("at(0) behind a fault", x.at(0), 'G');
        due.that("print()", x.print(), 5);
        due.that("at(0)", x.at(0), 'S');
        due.that("at(4)", x.at(4), ';');
        due.that("at(5), of an older print", x.at(5), MachineText.NONE);
    }
}
