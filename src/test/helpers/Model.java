import java.util.ArrayList;
import java.util.Collections;
import java.util.HashMap;
import java.util.List;
import java.util.Map;
import java.util.NoSuchElementException;
import java.util.TreeMap;
import java.util.TreeSet;
import java.util.regex.Matcher;
import java.util.regex.Pattern;

/** The document once more, written another way and without thrift, so that the class can be held against it. */
public final class Model {
    private static final class Berg {
        final TreeMap<Integer, Long> parts = new TreeMap<>();
        int size;
        int age;
        long out;
        boolean gone;

        long at(int square) {
            return parts.getOrDefault(square, 0L);
        }
    }

    private record Point(int x, int y) { }

    private static final class Warning {
        List<Point> ring;
        int from;
        Integer until;
    }

    private final boolean[] land = new boolean[280];
    private final Map<Integer, int[]> water = new HashMap<>();
    private final List<Berg> bergs = new ArrayList<>();
    private final List<Warning> warnings = new ArrayList<>();
    private String tape = "";
    private int now;
    private int joined;
    private int fault = -1;

    private static void square(int s) {
        if (s < 0 || s > 279) {
            throw new IndexOutOfBoundsException();
        }
    }

    private static void of(List<?> list, int i) {
        if (i < 0 || i >= list.size()) {
            throw new IndexOutOfBoundsException();
        }
    }

    private int[] waterOf(int s) {
        return water.getOrDefault(s, new int[] {0, 0, 1});
    }

    public int feed(int a, int b, int c, int d, int e) {
        if (tape.length() > 380) {
            return -1;
        }
        StringBuilder s = new StringBuilder(tape);
        for (int n : new int[] {a, b, c, d, e}) {
            long u = n & 0xffffffffL;
            s.append((char) (u / 16777216)).append((char) (u / 65536 % 256));
            s.append((char) (u / 256 % 256)).append((char) (u % 256));
        }
        tape = s.toString();
        return tape.length();
    }

    public boolean end(int n) {
        if (n < 0 || tape.length() < n) {
            return false;
        }
        tape = tape.substring(0, n);
        return true;
    }

    public void water(int s, int across, int up, int warmth) {
        square(s);
        if (across < -2 || across > 2 || up < -2 || up > 2 || warmth < 0 || warmth > 50) {
            throw new IllegalArgumentException();
        }
        water.put(s, new int[] {across, up, warmth});
    }

    public void land(int s, boolean is) {
        square(s);
        if (is && bergs.stream().anyMatch(b -> b.at(s) > 0)) {
            throw new IllegalStateException();
        }
        land[s] = is;
    }

    public int tell(int s, int size) {
        square(s);
        if (size <= 0 || size > 1000 || land[s]) {
            throw new IllegalArgumentException();
        }
        Berg best = null;
        for (Berg b : bergs) {
            if (!b.gone && b.at(s) > 0 && b.size >= size && (best == null || b.at(s) > best.at(s))) {
                best = b;
            }
        }
        if (best == null) {
            if (bergs.size() == 10) {
                throw new UnsupportedOperationException();
            }
            best = new Berg();
            bergs.add(best);
        } else {
            joined++;
        }
        best.parts.clear();
        best.parts.put(s, 1000000L);
        best.size = size;
        best.age = 0;
        best.out = 0;
        return bergs.indexOf(best);
    }

    public int step(int n) {
        if (n < 0 || n > 50) {
            throw new IllegalArgumentException();
        }
        for (int i = 0; i < n; i++) {
            now++;
            bergs.stream().filter(b -> !b.gone).forEach(this::stepOf);
        }
        return now;
    }

    private void stepOf(Berg b) {
        TreeMap<Integer, Long> next = new TreeMap<>();
        b.parts.forEach((s, p) -> {
            int x = s % 20 + waterOf(s)[0];
            int y = s / 20 + waterOf(s)[1];
            if (x < 0 || x > 19 || y < 0 || y > 13) {
                b.out += p;
            } else {
                next.merge(land[20 * y + x] ? s : 20 * y + x, p, Long::sum);
            }
        });
        b.parts.clear();
        next.forEach((s, p) -> {
            long rest = p;
            for (int t = 0; t < 280; t++) {
                boolean beside = Math.abs(t % 20 - s % 20) + Math.abs(t / 20 - s / 20) == 1;
                if (beside && !land[t] && p >= 8) {
                    b.parts.merge(t, p / 8, Long::sum);
                    rest -= p / 8;
                }
            }
            b.parts.merge(s, rest, Long::sum);
        });
        if (!b.parts.isEmpty()) {
            b.size -= b.parts.keySet().stream().mapToInt(s -> waterOf(s)[2]).min().getAsInt();
        }
        if (b.size <= 0 || b.parts.isEmpty()) {
            b.gone = true;
            b.parts.clear();
        }
        b.age++;
    }

    public int look(int s, int sharpness) {
        square(s);
        if (sharpness < 0 || sharpness > 100) {
            throw new IllegalArgumentException();
        }
        long all = 0;
        for (Berg b : bergs) {
            long p = b.at(s);
            long away = p * sharpness / 100 + (p * sharpness % 100 > 0 ? 1 : 0);
            all += away;
            if (p - away > 0) {
                b.parts.put(s, p - away);
            } else {
                b.parts.remove(s);
            }
            b.gone = b.parts.isEmpty();
        }
        return (int) all;
    }

    public int parts(int berg, int s) {
        of(bergs, berg);
        square(s);
        return (int) bergs.get(berg).at(s);
    }

    public int berg(int berg, int what) {
        of(bergs, berg);
        Berg b = bergs.get(berg);
        if (what < 0 || what > 5) {
            throw new NoSuchElementException();
        }
        return switch (what) {
            case 0 -> b.size;
            case 1 -> b.age;
            case 2 -> b.gone ? 1 : 0;
            case 3 -> b.parts.size();
            case 4 -> (int) b.parts.values().stream().mapToLong(p -> p).sum();
            default -> (int) b.out;
        };
    }

    private static int turn(Point a, Point b, Point c) {
        return (b.x - a.x) * (c.y - a.y) - (b.y - a.y) * (c.x - a.x);
    }

    /** From each corner on to that which has all others on the left, the farthest on one line. */
    private List<Point> ring() {
        List<Point> all = new ArrayList<>();
        for (int s : squares()) {
            for (int k = 0; k < 4; k++) {
                all.add(new Point(s % 20 + k % 2, s / 20 + k / 2));
            }
        }
        List<Point> ring = new ArrayList<>();
        if (all.isEmpty()) {
            return ring;
        }
        Point first = Collections.min(all, (a, b) -> a.x != b.x ? a.x - b.x : a.y - b.y);
        Point here = first;
        do {
            ring.add(here);
            Point next = null;
            for (Point p : all) {
                if (!p.equals(here) && (next == null || turn(here, next, p) < 0
                        || turn(here, next, p) == 0 && far(here, p) > far(here, next))) {
                    next = p;
                }
            }
            here = next;
        } while (!here.equals(first));
        return ring;
    }

    private static int far(Point a, Point b) {
        return (a.x - b.x) * (a.x - b.x) + (a.y - b.y) * (a.y - b.y);
    }

    private TreeSet<Integer> squares() {
        TreeSet<Integer> all = new TreeSet<>();
        bergs.forEach(b -> all.addAll(b.parts.keySet()));
        return all;
    }

    public int limit() {
        return ring().size();
    }

    public int corner(int k, boolean y) {
        List<Point> ring = ring();
        return k < 0 || k >= ring.size() ? -1 : y ? ring.get(k).y : ring.get(k).x;
    }

    public int warn() {
        List<Point> ring = ring();
        return ring.isEmpty() || ring.size() > 40 || warnings.size() == 40 ? -1 : add(ring);
    }

    private int add(List<Point> ring) {
        Warning w = new Warning();
        w.ring = ring;
        w.from = now;
        warnings.add(w);
        return warnings.size() - 1;
    }

    public int read() {
        String text = tape;
        tape = "";
        List<Point> ring = new ArrayList<>();
        fault = parse(text, ring);
        if (fault != -1) {
            throw new IllegalArgumentException();
        }
        if (warnings.size() == 40) {
            throw new UnsupportedOperationException();
        }
        return add(ring);
    }

    static int firstWrong(String text) {
        return parse(text, new ArrayList<>());
    }

    /** Things one by one, held against what may stand next. */
    private static int parse(String text, List<Point> ring) {
        Matcher m = Pattern.compile("[a-z]+|[0-9]+|[^ ]", Pattern.DOTALL).matcher(text);
        String next = "ring";
        int x = 0;
        while (m.find()) {
            String thing = m.group();
            boolean number = thing.matches("[0-9]{1,2}");
            if (next.equals("ring") && thing.equals("ring")) {
                next = "x";
            } else if (next.equals("x") && number && Integer.parseInt(thing) <= 20) {
                x = Integer.parseInt(thing);
                next = "y";
            } else if (next.equals("y") && number && Integer.parseInt(thing) <= 14) {
                ring.add(new Point(x, Integer.parseInt(thing)));
                next = "more";
            } else if (next.equals("more") && thing.equals(",") && ring.size() < 40) {
                next = "x";
            } else if (next.equals("more") && thing.equals("end") && ring.size() >= 3) {
                next = "nothing";
            } else {
                return m.start();
            }
        }
        return next.equals("nothing") ? -1 : text.length();
    }

    public int fault() {
        return fault;
    }

    public boolean cancel(int warning) {
        of(warnings, warning);
        if (warnings.get(warning).until != null) {
            return false;
        }
        warnings.get(warning).until = now;
        return true;
    }

    public boolean force(int warning, int step) {
        of(warnings, warning);
        Warning w = warnings.get(warning);
        return w.from <= step && (w.until == null || w.until > step);
    }

    public int write(int warning) {
        of(warnings, warning);
        List<String> corners = new ArrayList<>();
        warnings.get(warning).ring.forEach(p -> corners.add(p.x + " " + p.y));
        tape = "ring " + String.join(",", corners) + " end";
        return tape.length();
    }

    public int taped(int i) {
        return i < 0 || i >= tape.length() ? -1 : tape.charAt(i);
    }

    private static boolean in(List<Point> ring, int s) {
        double mx = s % 20 + 0.5;
        double my = s / 20 + 0.5;
        int right = 0;
        for (int i = 0; i < ring.size(); i++) {
            Point a = ring.get(i);
            Point b = ring.get((i + 1) % ring.size());
            if (a.y > my != b.y > my) {
                double at = a.x + (my - a.y) * (b.x - a.x) / (b.y - a.y);
                // All are fractions of small numbers: those that differ at all differ by more.
                if (mx < at - 1e-9) {
                    right++;
                }
            }
        }
        return right % 2 == 1;
    }

    public int way(int from, int to, int step) {
        square(from);
        square(to);
        boolean[] free = new boolean[280];
        for (int s = 0; s < 280; s++) {
            free[s] = !land[s];
        }
        for (int w = 0; w < warnings.size(); w++) {
            for (int s = 0; force(w, step) && s < 280; s++) {
                free[s] &= !in(warnings.get(w).ring, s);
            }
        }
        if (!free[from] || !free[to]) {
            return -1;
        }
        int[] far = new int[280];
        java.util.Arrays.fill(far, 1 << 20);
        far[from] = 0;
        for (boolean again = true; again;) {
            again = false;
            for (int s = 0; s < 280; s++) {
                for (int dy = -1; free[s] && dy <= 1; dy++) {
                    for (int dx = -1; dx <= 1; dx++) {
                        int x = s % 20 + dx;
                        int y = s / 20 + dy;
                        if (x >= 0 && x < 20 && y >= 0 && y < 14
                                && far[20 * y + x] + 3 + 2 * (dx * dx + dy * dy) < far[s]) {
                            far[s] = far[20 * y + x] + 3 + 2 * (dx * dx + dy * dy);
                            again = true;
                        }
                    }
                }
            }
        }
        return far[to] == 1 << 20 ? -1 : far[to];
    }

    public int flight() {
        long best = 0;
        Long[] known = new Long[280];
        for (int y = 0; y < 14; y++) {
            best = Math.max(best, seenFrom(0, y, known));
        }
        return (int) best;
    }

    private long seenFrom(int x, int y, Long[] known) {
        if (x == 20) {
            return 0;
        }
        if (y < 0 || y > 13) {
            return -1000000000L;
        }
        int s = 20 * y + x;
        if (known[s] == null) {
            long rest = Math.max(seenFrom(x + 1, y, known),
                Math.max(seenFrom(x + 1, y - 1, known), seenFrom(x + 1, y + 1, known)));
            known[s] = rest + bergs.stream().mapToLong(b -> b.at(s)).sum();
        }
        return known[s];
    }

    public int count(int what) {
        return switch (what) {
            case 0 -> now;
            case 1 -> bergs.size();
            case 2 -> (int) bergs.stream().filter(b -> !b.gone).count();
            case 3 -> warnings.size();
            case 4 -> (int) warnings.stream().filter(w -> w.from <= now && w.until == null).count();
            case 5 -> squares().size();
            case 6 -> tape.length();
            case 7 -> joined;
            default -> -1;
        };
    }
}
