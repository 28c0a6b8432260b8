import java.util.List;
import java.util.Random;

/** Runs of 512 calls of all kinds on one object, each answer against that of a plain model with a state. */
public final class RunsAgainstModelTest {
    private static final int RUNS = 2000;
    private static final int CALLS = 512;
    private static final String SIGNS = "FBRGS=>,;0123456789 x";

    private final Due due;
    /** The same seed for the same run: the same calls each time. */
    private final Random random;
    private final MachineText x = new MachineText();
    private final StringBuilder text = new StringBuilder();
    private PlainModel machine = null;
    private String printed = "";
    /** Characters of a good text that are still to be signed. */
    private String pending = "";
    private String call = "";

    private RunsAgainstModelTest(Due due, int run) {
        this.due = due;
        random = new Random(run);
    }

    public static void main(String[] args) {
        Due due = new Due();
        for (int run = 0; run < RUNS; run++) {
            RunsAgainstModelTest test = new RunsAgainstModelTest(due, run);
            for (int n = 1; n <= CALLS; n++) {
                test.call = "run " + run + ", call " + n + ": ";
                test.oneCall();
            }
        }
        due.end();
    }

    private void oneCall() {
        if (!pending.isEmpty() && random.nextInt(40) != 0) {
            sign(pending.charAt(0));
            pending = pending.substring(1);
        } else if (pending.isEmpty() && text.length() > 0 && random.nextInt(3) == 0) {
            read();
        } else if (random.nextInt(3) == 0) {
            anyCall();
        } else {
            ask();
        }
    }

    private void anyCall() {
        switch (random.nextInt(9)) {
            case 0:
                sign(random.nextInt(4) == 0 ? number(300) : SIGNS.charAt(random.nextInt(SIGNS.length())));
                break;
            case 1:
            case 2:
                read();
                break;
            case 3:
            case 4:
                print();
                break;
            case 5:
                at(number(printed.length() + 2));
                break;
            default:
                read();
                pending = someParts();
                break;
        }
    }

    private void ask() {
        switch (random.nextInt(7)) {
            case 0:
                part(number(26), number(7));
                break;
            case 1:
                due.that(call + "check()", x.check(), machine == null ? -1 : machine.faults().size());
                break;
            case 2:
                fault(number(20), number(4));
                break;
            case 3:
                reach(number(31));
                break;
            case 4:
                time(number(31), number(31));
                break;
            case 5:
                gap(number(31));
                break;
            default:
                suffices(number(31), random.nextInt(9) == 0 ? random.nextLong() : number(12));
                break;
        }
    }

    /** Mostly 0 up to a bound, now and then one that is far outside. */
    private int number(int bound) {
        return random.nextInt(30) == 0 ? Due.WILD[random.nextInt(Due.WILD.length)] : random.nextInt(bound + 1) - 1;
    }

    private String someParts() {
        StringBuilder out = new StringBuilder();
        int count = 1 + random.nextInt(random.nextInt(8) == 0 ? 26 : 8);
        int shift = random.nextInt(30);
        for (int i = 0; i < count; i++) {
            int name = random.nextInt(60) == 0 ? random.nextInt(31) : (shift + i * 7) % 30;
            out.append(onePart("FBRGS".charAt(random.nextInt(5)), name, shift, count));
        }
        return out.toString();
    }

    private String onePart(char letter, int name, int shift, int count) {
        String head = letter + String.valueOf(name) + "=" + (random.nextInt(40) == 0 ? 0 : 1 + random.nextInt(10));
        switch (letter) {
            case 'S':
                return head + ";";
            case 'B':
                return head + "," + (1 + random.nextInt(9)) + ">" + way(shift, count) + ";";
            case 'G':
                return head + ">" + way(shift, count) + "," + way(shift, count) + ";";
            default:
                return head + ">" + way(shift, count) + ";";
        }
    }

    private int way(int shift, int count) {
        return (shift + random.nextInt(count + 1) * 7) % 30;
    }

    private void sign(int c) {
        boolean want = c >= 32 && c <= 126 && text.length() < 300;
        due.that(call + "sign(" + c + ")", x.sign(c), want);
        if (want) {
            text.append((char) c);
        }
    }

    private void read() {
        PlainModel model = new PlainModel(text.toString());
        int want = model.fault >= 0 ? -1 - model.fault : model.parts.size();
        due.that(call + "read() of " + text, x.read(), want);
        text.setLength(0);
        if (model.fault < 0) {
            machine = model;
        }
    }

    private void print() {
        printed = machine == null ? "" : machine.printed();
        due.that(call + "print()", x.print(), printed.length());
    }

    private void at(int i) {
        due.that(call + "at(" + i + ")", x.at(i), i < 0 || i >= printed.length() ? -1 : printed.charAt(i));
    }

    private void part(int i, int what) {
        int want = -1;
        if (what < 0 || what > 5) {
            want = MachineText.OUTSIDE;
        } else if (machine != null && i >= 0 && i < machine.parts.size()) {
            PlainModel.Part part = machine.parts.get(i);
            List<Integer> ways = part.ways;
            want = new int[] {part.kind, part.name, part.size, part.speed,
                ways.size() > 0 ? ways.get(0) : -1, ways.size() > 1 ? ways.get(1) : -1}[what];
        }
        due.that(call + "part(" + i + ", " + what + ")", x.part(i, what), want);
    }

    private void fault(int i, int what) {
        int want = -1;
        if (what < 0 || what > 2) {
            want = MachineText.OUTSIDE;
        } else if (machine != null && i >= 0 && i < machine.faults().size()) {
            want = machine.faults().get(i)[what];
        }
        due.that(call + "fault(" + i + ", " + what + ")", x.fault(i, what), want);
    }

    private PlainModel.Part named(int name) {
        return machine == null ? null : machine.named(name);
    }

    private void reach(int bin) {
        PlainModel.Part part = named(bin);
        int want = part == null ? MachineText.UNKNOWN : part.kind != 4 ? MachineText.STATE : machine.gap(part) == -1 ? 0 : 1;
        due.that(call + "reach(" + bin + ")", x.reach(bin), want);
    }

    private void time(int from, int to) {
        PlainModel.Part start = named(from);
        PlainModel.Part end = named(to);
        long want = start == null || end == null ? MachineText.UNKNOWN : machine.time(start, end);
        due.that(call + "time(" + from + ", " + to + ")", x.time(from, to), want);
    }

    private void gap(int name) {
        PlainModel.Part part = named(name);
        due.that(call + "gap(" + name + ")", x.gap(name), part == null ? MachineText.UNKNOWN : machine.gap(part));
    }

    private void suffices(int gate, long gap) {
        PlainModel.Part part = named(gate);
        boolean want = part != null && part.kind == 3 && part.size <= gap;
        due.that(call + "suffices(" + gate + ", " + gap + ")", x.suffices(gate, gap), want);
    }
}
