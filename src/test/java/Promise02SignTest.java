/** sign: a character more, as long as there is room, from 32 to 126. */
public final class Promise02SignTest {
    public static void main(String[] args) {
        Due due = new Due();
        charactersFrom32To126(due);
        refusedOnesAreNotInTheText(due);
        roomForThreeHundred(due);
        roomAgainBehindRead(due);
        due.end();
    }

    private static void charactersFrom32To126(Due due) {
        MachineText x = new MachineText();
        for (int c = -2; c < 300; c++) {
            due.that("sign(" + c + ")", x.sign(c), c >= 32 && c <= 126);
        }
        for (int c : Due.WILD) {
            due.that("sign(" + c + ")", x.sign(c), c >= 32 && c <= 126);
        }
        // Their low 16 bits are those of a character of a text.
        due.that("sign(65536 + 'S')", x.sign(65536 + 'S'), false);
        due.that("sign('S' - 65536)", x.sign('S' - 65536), false);
    }

    private static void refusedOnesAreNotInTheText(Due due) {
        MachineText x = new MachineText();
        Due.signAll(x, "S1");
        x.sign(31);
        x.sign(127);
        x.sign(65536 + '0');
        Due.signAll(x, "=7;");
        due.that("read()", x.read(), 1);
        due.that("part(0, 2)", x.part(0, 2), 7);
    }

    private static void roomForThreeHundred(Due due) {
        MachineText x = new MachineText();
        String text = Due.fullText();
        due.that("length", text.length(), 300);
        due.that("300 characters", Due.signAll(x, text), true);
        due.that("the 301st", x.sign(';'), false);
        due.that("the 301st again", x.sign('S'), false);
        due.that("the 301st that is none", x.sign(31), false);
        due.that("read()", x.read(), 15);
    }

    private static void roomAgainBehindRead(Due due) {
        MachineText x = new MachineText();
        for (int i = 0; i < 300; i++) {
            due.that("sign " + i, x.sign(' '), true);
        }
        due.that("sign 300", x.sign(' '), false);
        due.that("read()", x.read(), -1);
        due.that("room again", Due.signAll(x, "S0=1;"), true);
        due.that("read()", x.read(), 1);
    }
}
