/** The sentences of "Terms" that bound numbers: each number of each kind, on its bounds and beyond them. */
public final class BoundsNumbersTest {
    /** Parts with # for the number, the least one, the largest one, and part's what for it. */
    private static final Object[][] NUMBERS = {
        {"F0=#>1;", 1, 9999, 2},
        {"B0=#,1>1;", 1, 9999, 2},
        {"B0=1,#>1;", 1, 9999, 3},
        {"R0=#>1;", 0, 9999, 2},
        {"G0=#>1,1;", 0, 9999, 2},
        {"S0=#;", 1, 999, 2},
        {"F#=1>0;", 0, 29, 1},
        {"B#=1,1>0;", 0, 29, 1},
        {"R#=0>0;", 0, 29, 1},
        {"G#=0>0,0;", 0, 29, 1},
        {"S#=1;", 0, 29, 1},
        {"F0=1>#;", 0, 29, 4},
        {"B0=1,1>#;", 0, 29, 4},
        {"R0=0>#;", 0, 29, 4},
        {"G0=0>#,0;", 0, 29, 4},
        {"G0=0>0,#;", 0, 29, 5}
    };

    private final Due due = new Due();
    private final String form;
    private final int least;
    private final int most;
    private final int what;

    private BoundsNumbersTest(Object[] row) {
        form = (String) row[0];
        least = (Integer) row[1];
        most = (Integer) row[2];
        what = (Integer) row[3];
    }

    public static void main(String[] args) {
        for (Object[] row : NUMBERS) {
            BoundsNumbersTest test = new BoundsNumbersTest(row);
            test.theBounds();
            test.everyNumber();
            test.oneToFourDigits();
            test.noFifthDigit();
            test.behindOtherParts();
            test.due.end();
        }
    }

    /** "a GAP 1 .. 9999" and its like: the least, the largest, one below and one above. */
    private void theBounds() {
        asSaid(String.valueOf(least), least);
        asSaid(String.valueOf(most), most);
        if (least > 0) {
            notAsSaid(String.valueOf(least - 1));
        }
        due.faultAt(form.indexOf('#'), with("-1"));
        due.faultAt(form.indexOf('#'), with("+1"));
        if (most < 9999) {
            notAsSaid(String.valueOf(most + 1));
        } else {
            // 10000 has a fifth digit, and a digit can't be there.
            due.faultAt(form.indexOf('#') + 4, with("10000"));
        }
    }

    private void everyNumber() {
        for (int number = 0; number <= 9999; number++) {
            if (number >= least && number <= most) {
                asSaid(String.valueOf(number), number);
            } else {
                notAsSaid(String.valueOf(number));
            }
        }
    }

    /** "NUMBERS (names, too) are one to four digits": none, one to four, zeros before among them. */
    private void oneToFourDigits() {
        due.faultAt(form.indexOf('#'), with(""));
        due.faultAt(form.indexOf('#'), form.substring(0, form.indexOf('#')));
        for (int number : new int[] {0, 1, 9, 29, 30, 99, 100, 999, 1000, 9999}) {
            String digits = String.valueOf(number);
            for (; digits.length() <= 4; digits = "0" + digits) {
                if (number >= least && number <= most) {
                    asSaid(digits, number);
                } else {
                    notAsSaid(digits);
                }
            }
        }
    }

    /** The first four digits are a number as said, the fifth one can't be there. */
    private void noFifthDigit() {
        for (int number : new int[] {least, least + 1, most - 1, most}) {
            for (char fifth = '0'; fifth <= '9'; fifth++) {
                due.faultAt(form.indexOf('#') + 4, with(String.format("%04d", number) + fifth));
            }
            due.faultAt(form.indexOf('#') + 4, with(String.format("%04d", number) + "000000"));
        }
    }

    /** The place is one of the text, not one of the part. */
    private void behindOtherParts() {
        String before = "S28=1;R27=0>3;";
        due.reads(before + with(String.valueOf(least)), 3);
        due.reads(before + with(String.valueOf(most)), 3);
        due.faultAt(before.length() + form.indexOf('#'), before + with(""));
        if (least > 0) {
            due.faultAt(before.length() + form.indexOf('#'), before + with(String.valueOf(least - 1)));
        }
        if (most < 9999) {
            due.faultAt(before.length() + form.indexOf('#'), before + with(String.valueOf(most + 1)));
        }
    }

    private void asSaid(String digits, int number) {
        MachineText x = new MachineText();
        due.that("read of " + with(digits), Due.read(x, with(digits)), 1);
        due.that("the number of " + with(digits), x.part(0, what), number);
    }

    /** "of a number that is not as said, its first digit": also where the text ends behind it. */
    private void notAsSaid(String digits) {
        due.faultAt(form.indexOf('#'), with(digits));
        due.faultAt(form.indexOf('#'), form.substring(0, form.indexOf('#')) + digits);
    }

    private String with(String digits) {
        return form.replace("#", digits);
    }
}
