import java.util.ArrayDeque;
import java.util.ArrayList;
import java.util.HashSet;
import java.util.List;
import java.util.Set;
import java.util.regex.Matcher;
import java.util.regex.Pattern;

/** The document once more, written another way: by patterns, searches and lists. */
final class PlainModel {
    private static final String LETTERS = "FBRGS";
    /** Behind the letter: # is a number, all else stands for itself. */
    private static final String[] FORMS = {"#=#>#;", "#=#,#>#;", "#=#>#;", "#=#>#,#;", "#=#;"};
    private static final String[] RANGES = {
        "0-29 1-9999 0-29", "0-29 1-9999 1-9999 0-29", "0-29 0-9999 0-29", "0-29 0-9999 0-29 0-29", "0-29 1-999"
    };
    private static final Pattern DIGITS = Pattern.compile("[0-9]{1,4}");

    static final class Part {
        int kind;
        int name;
        int size;
        int speed = -1;
        final List<Integer> ways = new ArrayList<>();
    }

    final List<Part> parts = new ArrayList<>();
    /** The place of the fault, or -1. */
    final int fault;

    PlainModel(String text) {
        fault = parse(text);
    }

    private int parse(String text) {
        int place = 0;
        Set<Integer> names = new HashSet<>();
        do {
            int kind = place < text.length() && parts.size() < 24 ? LETTERS.indexOf(text.charAt(place)) : -1;
            if (kind < 0) {
                return place;
            }
            place++;
            List<Integer> numbers = new ArrayList<>();
            String[] ranges = RANGES[kind].split(" ");
            for (char c : FORMS[kind].toCharArray()) {
                if (c != '#') {
                    if (!text.startsWith(String.valueOf(c), place)) {
                        return place;
                    }
                    place++;
                    continue;
                }
                Matcher digits = DIGITS.matcher(text).region(place, text.length());
                if (!digits.lookingAt()) {
                    return place;
                }
                int number = Integer.parseInt(digits.group());
                String[] range = ranges[numbers.size()].split("-");
                if (number < Integer.parseInt(range[0]) || number > Integer.parseInt(range[1])) {
                    return place;
                }
                if (numbers.isEmpty() && !names.add(number)) {
                    return place;
                }
                numbers.add(number);
                place = digits.end();
            }
            parts.add(made(kind, numbers));
        } while (place < text.length());
        return -1;
    }

    private static Part made(int kind, List<Integer> numbers) {
        Part part = new Part();
        part.kind = kind;
        part.name = numbers.get(0);
        part.size = numbers.get(1);
        int ways = 2;
        if (kind == 1) {
            part.speed = numbers.get(2);
            ways = 3;
        }
        part.ways.addAll(numbers.subList(ways, numbers.size()));
        return part;
    }

    Part named(int name) {
        for (Part part : parts) {
            if (part.name == name) {
                return part;
            }
        }
        return null;
    }

    /** All that a part reaches, found by a search from it. */
    Set<Part> reachedFrom(Part start) {
        Set<Part> seen = new HashSet<>();
        ArrayDeque<Part> open = new ArrayDeque<>();
        open.add(start);
        while (!open.isEmpty()) {
            for (int way : open.remove().ways) {
                Part goal = named(way);
                if (goal != null && seen.add(goal)) {
                    open.add(goal);
                }
            }
        }
        return seen;
    }

    int gap(Part part) {
        int least = Integer.MAX_VALUE;
        for (Part feeder : parts) {
            if (feeder.kind == 0 && reachedFrom(feeder).contains(part)) {
                least = Math.min(least, feeder.size);
            }
        }
        return least == Integer.MAX_VALUE ? -1 : least;
    }

    /** By as many rounds of shortening as there are parts. */
    long time(Part from, Part to) {
        long[] times = new long[30];
        java.util.Arrays.fill(times, Long.MAX_VALUE);
        times[from.name] = 0;
        for (int round = 0; round < parts.size(); round++) {
            for (Part part : parts) {
                for (int way : part.ways) {
                    if (times[part.name] != Long.MAX_VALUE) {
                        times[way] = Math.min(times[way], times[part.name] + through(part));
                    }
                }
            }
        }
        return times[to.name] == Long.MAX_VALUE ? -1 : times[to.name];
    }

    private static long through(Part part) {
        if (part.kind == 1) {
            long whole = 1000L * part.size / part.speed;
            return whole * part.speed == 1000L * part.size ? whole : whole + 1;
        }
        return part.kind == 2 ? part.size : 0;
    }

    /** Each fault as {kind, name, way}. */
    List<int[]> faults() {
        List<int[]> all = new ArrayList<>();
        for (Part part : parts) {
            for (int way = 0; way < part.ways.size(); way++) {
                if (named(part.ways.get(way)) == null) {
                    all.add(new int[] {1, part.name, way});
                }
            }
        }
        for (Part part : parts) {
            if (part.kind == 3 && gap(part) != -1 && part.size > gap(part)) {
                all.add(new int[] {2, part.name, -1});
            }
        }
        for (Part part : parts) {
            if (part.kind == 3 && part.ways.stream().anyMatch(w -> named(w) != null && named(w).kind == 3)) {
                all.add(new int[] {3, part.name, -1});
            }
        }
        for (Part part : parts) {
            if (reachedFrom(part).contains(part)) {
                all.add(new int[] {4, part.name, -1});
            }
        }
        for (Part part : parts) {
            if (part.kind == 4 && gap(part) == -1) {
                all.add(new int[] {5, part.name, -1});
            }
        }
        for (Part part : parts) {
            if (part.kind == 0 && parts.stream().anyMatch(p -> reachedFrom(p).contains(part))) {
                all.add(new int[] {6, part.name, -1});
            }
        }
        return all;
    }

    String printed() {
        StringBuilder out = new StringBuilder();
        for (Part part : parts) {
            out.append(LETTERS.charAt(part.kind)).append(part.name).append('=').append(part.size);
            if (part.kind == 1) {
                out.append(',').append(part.speed);
            }
            String between = ">";
            for (int way : part.ways) {
                out.append(between).append(way);
                between = ",";
            }
            out.append(';');
        }
        return out.toString();
    }
}
