/** at: what was printed latest, character by character. */
public final class Promise12AtTest {
    public static void main(String[] args) {
        Due due = new Due();
        String text = "G12=0>29,3;";
        MachineText x = Due.machine(text);
        due.that("at(0) before any print()", x.at(0), MachineText.NONE);
        due.that("print()", x.print(), text.length());
        for (int i = 0; i < text.length(); i++) {
            due.that("at(" + i + ")", x.at(i), text.charAt(i));
        }
        due.that("at(-1)", x.at(-1), MachineText.NONE);
        due.that("at(the length)", x.at(text.length()), MachineText.NONE);
        for (int wild : Due.WILD) {
            due.that("at(" + wild + ")", x.at(wild), MachineText.NONE);
        }
        latestPrintStays(due, x, text);
        due.end();
    }

    private static void latestPrintStays(Due due, MachineText x, String text) {
        Due.read(x, "S0=7;");
        due.that("at(1) behind read()", x.at(1), '1');
        due.that("at(10) behind read()", x.at(10), ';');
        Due.read(x, "?");
        due.that("at(0) behind a fault", x.at(0), 'G');
        due.that("print()", x.print(), 5);
        due.that("at(0)", x.at(0), 'S');
        due.that("at(4)", x.at(4), ';');
        due.that("at(5), of an older print", x.at(5), MachineText.NONE);
    }
}
