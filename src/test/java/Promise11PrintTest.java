/** print: the machine as a text again. */
public final class Promise11PrintTest {
    public static void main(String[] args) {
        Due due = new Due();
        prints(due, "F0=50>1;B1=1000,300>2;R2=7>3;G3=50>4,5;S4=100;G5=51>3,6;S6=9;S7=999;F8=30>9;");
        prints(due, "S9=10;S0=1;R29=0>0;R10=9999>20;G20=100>10,0;B3=9,90>5;");
        due.that("zeros before",
            Due.printed(Due.machine("F0000=0001>0029;B01=010,0100>0;R002=0000>00;G03=00>03,0010;S04=0909;")),
            "F0=1>29;B1=10,100>0;R2=0>0;G3=0>3,10;S4=909;");
        due.that("24 parts", Due.printed(Due.machine(Due.stackers(24))), Due.stackers(24));
        fullText(due);
        MachineText x = Due.machine("S0=1;");
        due.that("print()", x.print(), 5);
        due.that("print() again", x.print(), 5);
        Due.signAll(x, "S1=22;");
        due.that("print() with a text that is not read", x.print(), 5);
        x.read();
        due.that("print() of the newer machine", x.print(), 6);
        due.that("print() without a machine", new MachineText().print(), 0);
        due.end();
    }

    private static void prints(Due due, String text) {
        due.that("printed", Due.printed(Due.machine(text)), text);
    }

    /** 300 characters without zeros before, printed as they are. */
    private static void fullText(Due due) {
        StringBuilder text = new StringBuilder();
        for (int i = 10; i < 28; i++) {
            text.append("B").append(i).append("=1000,999>29;");
        }
        text.append("B6=10,10>20;");
        due.that("length", text.length(), 300);
        MachineText x = Due.machine(text.toString());
        due.that("print()", x.print(), 300);
        for (int i = 100; i < 300; i++) {
            due.that("at(" + i + ")", x.at(i), text.charAt(i));
        }
    }
}
