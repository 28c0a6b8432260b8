/** What the tests share: answers against those that are due, and texts put in whole. */
final class Due {
    static final int[] WILD = {
        Integer.MIN_VALUE, Integer.MIN_VALUE + 1, -1000, -13, -12, -11, -2, -1,
        30, 31, 300, 301, 9999, 65536, Integer.MAX_VALUE - 1, Integer.MAX_VALUE
    };

    private int wrong = 0;

    void that(String call, long got, long want) {
        if (got != want) {
            wrong++;
            System.out.println(call + " answered " + got + ", due is " + want);
        }
    }

    void that(String call, boolean got, boolean want) {
        that(call, got ? 1 : 0, want ? 1 : 0);
    }

    void that(String call, String got, String want) {
        if (!got.equals(want)) {
            wrong++;
            System.out.println(call + " answered " + got + ", due is " + want);
        }
    }

    /** A text read by a new object. */
    void reads(String text, int want) {
        that("read of " + text, read(new MachineText(), text), want);
    }

    /** A text whose fault is at a place, read by a new object. */
    void faultAt(int place, String text) {
        reads(text, -1 - place);
    }

    void end() {
        if (wrong != 0) {
            System.out.println(wrong + " answers are not as due");
            System.exit(1);
        }
    }

    static boolean signAll(MachineText x, String text) {
        boolean all = true;
        for (int i = 0; i < text.length(); i++) {
            all &= x.sign(text.charAt(i));
        }
        return all;
    }

    static int read(MachineText x, String text) {
        signAll(x, text);
        return x.read();
    }

    /** A new object with the machine of a text that has no fault. */
    static MachineText machine(String text) {
        MachineText x = new MachineText();
        if (read(x, text) <= 0) {
            throw new IllegalStateException("no machine: " + text);
        }
        return x;
    }

    static String printed(MachineText x) {
        int length = x.print();
        StringBuilder out = new StringBuilder();
        for (int i = 0; i < length; i++) {
            out.append((char) x.at(i));
        }
        return out.toString();
    }

    /** All faults as "kind:name" or "kind:name.way", joined by spaces. */
    static String faults(MachineText x) {
        StringBuilder out = new StringBuilder();
        for (int i = 0; i < x.check(); i++) {
            out.append(i == 0 ? "" : " ").append(x.fault(i, 0)).append(':').append(x.fault(i, 1));
            if (x.fault(i, 2) != MachineText.NONE) {
                out.append('.').append(x.fault(i, 2));
            }
        }
        return out.toString();
    }

    /** Parts S0=1; S1=1; and so on. */
    static String stackers(int count) {
        StringBuilder out = new StringBuilder();
        for (int i = 0; i < count; i++) {
            out.append('S').append(i).append("=1;");
        }
        return out.toString();
    }

    /** 300 characters: 14 gates of 21, with the names 10 to 23, and a stacker of 6. */
    static String fullText() {
        StringBuilder out = new StringBuilder();
        for (int i = 10; i < 24; i++) {
            out.append(String.format("G%04d=%04d>%04d,%04d;", i, i, 29, i + 1));
        }
        return out.append("S29=1;").toString();
    }

    /** A part of a kind with a name: its other numbers as small as they may be, its ways to 0. */
    static String part(int kind, String name) {
        String[] behind = {"=1>0;", "=1,1>0;", "=0>0;", "=0>0,0;", "=1;"};
        return "FBRGS".charAt(kind) + name + behind[kind];
    }

    /** As many parts of one kind with the names 0, 1 and so on. */
    static String parts(int kind, int count) {
        StringBuilder out = new StringBuilder();
        for (int i = 0; i < count; i++) {
            out.append(part(kind, String.valueOf(i)));
        }
        return out.toString();
    }

    /**
     * All that can be asked without a change, of a machine with at most two parts whose names
     * are among 0, 1, 2, and at most 17 characters printed: 105 calls.
     */
    static String state(MachineText x) {
        StringBuilder out = new StringBuilder();
        for (int i = -1; i <= 17; i++) {
            out.append(x.at(i)).append(' ');
        }
        for (int i = 0; i <= 2; i++) {
            for (int what = 0; what <= 5; what++) {
                out.append(x.part(i, what)).append(' ');
            }
        }
        out.append("check ").append(x.check()).append(' ');
        for (int i = 0; i <= 8; i++) {
            for (int what = 0; what <= 2; what++) {
                out.append(x.fault(i, what)).append(' ');
            }
        }
        for (int name = 0; name <= 3; name++) {
            out.append(x.reach(name)).append(' ').append(x.gap(name)).append(' ');
            for (int to = 0; to <= 3; to++) {
                out.append(x.time(name, to)).append(' ');
            }
            for (long gap = -1; gap <= 2; gap++) {
                out.append(x.suffices(name, gap)).append(' ');
            }
        }
        return out.toString();
    }
}
