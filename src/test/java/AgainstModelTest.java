import java.util.List;
import java.util.Random;

/** Many texts, good ones and spoilt ones, each call's answer against that of the plain model. */
public final class AgainstModelTest {
    private static final String SIGNS = "FBRGS=>,;0123456789 x";
    private static final int TEXTS = 6000;

    private final Due due = new Due();
    /** The same seed each time: the same texts each time. */
    private final Random random = new Random(20261115);

    public static void main(String[] args) {
        AgainstModelTest test = new AgainstModelTest();
        for (int i = 0; i < TEXTS; i++) {
            test.oneText();
        }
        test.due.end();
    }

    private void oneText() {
        String text = random.nextInt(3) == 0 ? spoilt(good()) : good();
        if (text.length() > 300) {
            text = text.substring(0, 300);
        }
        PlainModel model = new PlainModel(text);
        due.reads(text, model.fault >= 0 ? -1 - model.fault : model.parts.size());
        if (model.fault < 0) {
            parts(text, model);
            faults(text, model);
            names(text, model);
            times(text, model);
            due.that("printed " + text, firstPrinted(text), firstOf(model.printed()));
        }
    }

    private String good() {
        int count = 1 + random.nextInt(random.nextBoolean() ? 6 : 25);
        int names = Math.min(30, count + random.nextInt(4));
        boolean[] taken = new boolean[30];
        StringBuilder out = new StringBuilder();
        for (int i = 0; i < count; i++) {
            int name = random.nextInt(names);
            while (taken[name]) {
                name = (name + 1) % 30;
            }
            taken[name] = true;
            out.append(part(random.nextInt(5), name, names));
        }
        return out.toString();
    }

    private String part(int kind, int name, int names) {
        String way = number(random.nextInt(names));
        switch (kind) {
            case 0:
                return "F" + number(name) + "=" + number(1 + size(99)) + ">" + way + ";";
            case 1:
                return "B" + number(name) + "=" + number(1 + size(9998)) + "," + number(1 + size(9998)) + ">" + way + ";";
            case 2:
                return "R" + number(name) + "=" + number(size(9999)) + ">" + way + ";";
            case 3:
                return "G" + number(name) + "=" + number(size(99)) + ">" + way + "," + number(random.nextInt(names)) + ";";
            default:
                return "S" + number(name) + "=" + number(1 + size(998)) + ";";
        }
    }

    private int size(int most) {
        return random.nextInt(1 + random.nextInt(most + 1));
    }

    private String number(int value) {
        String plain = String.valueOf(value);
        return random.nextInt(8) == 0 ? "0".repeat(random.nextInt(5 - plain.length())) + plain : plain;
    }

    private String spoilt(String text) {
        StringBuilder out = new StringBuilder(text);
        int place = random.nextInt(out.length());
        char sign = SIGNS.charAt(random.nextInt(SIGNS.length()));
        switch (random.nextInt(4)) {
            case 0:
                out.setCharAt(place, sign);
                break;
            case 1:
                out.insert(place, sign);
                break;
            case 2:
                out.deleteCharAt(place);
                break;
            default:
                out.setLength(place);
                break;
        }
        return out.toString();
    }

    private void parts(String text, PlainModel model) {
        MachineText x = Due.machine(text);
        for (int i = 0; i < model.parts.size(); i++) {
            PlainModel.Part part = model.parts.get(i);
            int[] want = {part.kind, part.name, part.size, part.speed,
                part.ways.size() > 0 ? part.ways.get(0) : -1, part.ways.size() > 1 ? part.ways.get(1) : -1};
            for (int what = 0; what < want.length; what++) {
                due.that("part(" + i + ", " + what + ") of " + text, x.part(i, what), want[what]);
            }
        }
    }

    private void faults(String text, PlainModel model) {
        List<int[]> want = model.faults();
        MachineText x = Due.machine(text);
        due.that("check() of " + text, x.check(), want.size());
        for (int i = 0; i < want.size() && i < 60; i++) {
            for (int what = 0; what < 3; what++) {
                due.that("fault(" + i + ", " + what + ") of " + text, x.fault(i, what), want.get(i)[what]);
            }
        }
    }

    private void names(String text, PlainModel model) {
        MachineText x = Due.machine(text);
        for (int name = 0; name < 30; name++) {
            PlainModel.Part part = model.named(name);
            int gap = part == null ? -11 : model.gap(part);
            int reach = part == null ? -11 : part.kind != 4 ? -13 : gap == -1 ? 0 : 1;
            int asked = random.nextInt(100);
            due.that("gap(" + name + ") of " + text, x.gap(name), gap);
            due.that("reach(" + name + ") of " + text, x.reach(name), reach);
            due.that("suffices(" + name + ", " + asked + ") of " + text, x.suffices(name, asked),
                part != null && part.kind == 3 && part.size <= asked);
        }
    }

    private void times(String text, PlainModel model) {
        MachineText x = Due.machine(text);
        for (int n = 0; n < 150; n++) {
            int from = random.nextInt(30);
            int to = random.nextInt(30);
            PlainModel.Part start = model.named(from);
            PlainModel.Part end = model.named(to);
            long want = start == null || end == null ? -11 : model.time(start, end);
            due.that("time(" + from + ", " + to + ") of " + text, x.time(from, to), want);
        }
    }

    /** Not more characters than an object has calls left. */
    private static String firstPrinted(String text) {
        MachineText x = Due.machine(text);
        int length = x.print();
        StringBuilder out = new StringBuilder();
        for (int i = 0; i < length && i < 200; i++) {
            out.append((char) x.at(i));
        }
        return out.append(length).toString();
    }

    private static String firstOf(String printed) {
        return printed.substring(0, Math.min(200, printed.length())) + printed.length();
    }
}
