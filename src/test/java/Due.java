/** What the tests share: answers against those that are due, and texts put in whole. */
final class Due {
    static final int[] WILD = {
        Integer.MIN_VALUE, Integer.MIN_VALUE + 1, -1000, -13, -12, -11, -2, -1,
        30, 31, 300, 301, 9999, 65536, Integer.MAX_VALUE - 1, Integer.MAX_VALUE
    };

    private int wrong = 0;

    void that(String call, long got, long want) {
        if (got != want) {
            wrong++;
            System.out.println(call + " answered " + got + ", due is " + want);
        }
    }

    void that(String call, boolean got, boolean want) {
        that(call, got ? 1 : 0, want ? 1 : 0);
    }

    void that(String call, String got, String want) {
        if (!got.equals(want)) {
            wrong++;
            System.out.println(call + " answered " + got + ", due is " + want);
        }
    }

    /** A text read by a new object. */
    void reads(String text, int want) {
        that("read of " + text, read(new MachineText(), text), want);
    }

    /** A text whose fault is at a place, read by a new object. */
    void faultAt(int place, String text) {
        reads(text, -1 - place);
    }

    void end() {
        if (wrong != 0) {
            System.out.println(wrong + " answers are not as due");
            System.exit(1);
        }
    }

    static boolean signAll(MachineText x, String text) {
        boolean all = true;
        for (int i = 0; i < text.length(); i++) {
            all &= x.sign(text.charAt(i));
        }
        return all;
    }

    static int read(MachineText x, String text) {
        signAll(x, text);
        return x.read();
    }

    /** A new object with the machine of a text that has no fault. */
    static MachineText machine(String text) {
        MachineText x = new MachineText();
        if (read(x, text) <= 0) {
            throw new IllegalStateException("no machine: " + text);
        }
        return x;
    }

    static String printed(MachineText x) {
        int length = x.print();
        StringBuilder out = new StringBuilder();
        for (int i = 0; i < length; i++) {
            out.append((char) x.at(i));
        }
        return out.toString();
    }

    /** All faults as "kind:name" or "kind:name.way", joined by spaces. */
    static String faults(MachineText x) {
        StringBuilder out = new StringBuilder();
        for (int i = 0; i < x.check(); i++) {
            out.append(i == 0 ? "" : " ").append(x.fault(i, 0)).append(':').append(x.fault(i, 1));
            if (x.fault(i, 2) != MachineText.NONE) {
                out.append('.').append(x.fault(i, 2));
            }
        }
        return out.toString();
    }

    /** Parts S0=1; S1=1; and so on. */
    static String stackers(int count) {
        StringBuilder out = new StringBuilder();
        for (int i = 0; i < count; i++) {
            out.append('S').append(i).append("=1;");
        }
        return out.toString();
    }
}
