/** print: the machine as a text again. */
public final class Promise11PrintTest {
    public static void main(String[] args) {
        Due due = new Due();
        prints(due, "F0=50>1;B1=1000,300>2;R2=7>3;G3=50>4,5;S4=100;G5=51>3,6;S6=9;S7=999;F8=30>9;");
        prints(due, "S9=10;S0=1;R29=0>0;R10=9999>20;G20=100>10,0;B3=9,90>5;");
        due.that("zeros before",
            Due.printed(Due.machine("F0000=0001>0029;B01=010,0100>0;R002=0000>00;G03=00>03,0010;S04=0909;")),
            "F0=1>29;B1=10,100>0;R2=0>0;G3=0>3,10;S4=909;");
        due.that("24 parts", Due.printed(Due.machine(Due.stackers(24))), Due.stackers(24));
        fullText(due);
        digits(due);
        MachineText x = Due.machine("S0=1;");
        due.that("print()", x.print(), 5);
        due.that("print() again", x.print(), 5);
        Due.signAll(x, "S1=22;");
        due.that("print() with a text that is not read", x.print(), 5);
        x.read();
        due.that("print() of the newer machine", x.print(), 6);
        due.that("print() without a machine", new MachineText().print(), 0);
        due.end();
    }

    /** "numbers without zeros before": where one digit more comes, with and without zeros. */
    private static void digits(Due due) {
        for (int number : new int[] {0, 1, 9, 10, 11, 99, 100, 101, 909, 990, 999, 1000, 1001, 9000, 9090, 9999}) {
            String plain = "R0=" + number + ">0;";
            MachineText x = Due.machine(plain);
            due.that("print() of " + plain, x.print(), plain.length());
            due.that("printed", Due.printed(x), plain);
            due.that("zeros before", Due.printed(Due.machine(String.format("R0000=%04d>0000;", number))), plain);
        }
        for (int name = 0; name <= 29; name++) {
            String plain = "G" + name + "=0>" + name + "," + (29 - name) + ";";
            due.that("zeros before names", Due.printed(Due.machine(
                String.format("G%04d=0>%03d,%02d;", name, name, 29 - name))), plain);
        }
    }

    private static void prints(Due due, String text) {
        due.that("printed", Due.printed(Due.machine(text)), text);
    }

    /** 300 characters without zeros before. */
    static String threeHundred() {
        StringBuilder text = new StringBuilder();
        for (int i = 10; i < 28; i++) {
            text.append("B").append(i).append("=1000,999>29;");
        }
        return text.append("B6=10,10>20;").toString();
    }

    private static void fullText(Due due) {
        String text = threeHundred();
        due.that("length", text.length(), 300);
        MachineText x = Due.machine(text);
        due.that("print()", x.print(), 300);
        for (int i = 100; i < 300; i++) {
            due.that("at(" + i + ")", x.at(i), text.charAt(i));
        }
    }
}
