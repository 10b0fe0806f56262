import java.util.ArrayList;
import java.util.List;
import java.util.function.Function;

/**
 * Two objects with the same past, of which one then has one call more: all that they tell is held against one another.
 * The questions are asked in rows, each of a new pair, so that none is used for more calls than the document allows.
 */
final class Twins {
    private static final int IN_A_ROW = 200;

    private Twins() { }

    interface Past {
        void play(BergPatrol p);
    }

    /** That the last call of the one past changes nothing that the other one does not, but for fault() where it is left out. */
    static void same(String what, Past one, Past other, boolean withFault) {
        BergPatrol asked = new BergPatrol();
        other.play(asked);
        List<List<Function<BergPatrol, String>>> rows = rows(asked, withFault);
        String difference = "";
        for (List<Function<BergPatrol, String>> row : rows) {
            String got = answers(row, one);
            String due = answers(row, other);
            if (!got.equals(due)) {
                difference = got + " for " + due;
            }
        }
        Check.same("what changed by " + what, difference, "");
    }

    private static String answers(List<Function<BergPatrol, String>> row, Past past) {
        BergPatrol p = new BergPatrol();
        past.play(p);
        StringBuilder s = new StringBuilder();
        for (Function<BergPatrol, String> question : row) {
            s.append(question.apply(p)).append(' ');
        }
        return s.toString();
    }

    private static List<List<Function<BergPatrol, String>>> rows(BergPatrol asked, boolean withFault) {
        List<Function<BergPatrol, String>> all = new ArrayList<>();
        addCounts(all, withFault);
        addWarnings(all, asked.count(3), asked.count(0));
        addBergs(all, asked.count(1));
        List<List<Function<BergPatrol, String>>> rows = new ArrayList<>();
        addRows(rows, all, p -> "");
        List<Function<BergPatrol, String>> later = new ArrayList<>();
        addBergs(later, asked.count(1));
        addRows(rows, later, p -> "step " + p.step(1));
        for (int w = 0; w < asked.count(3); w++) {
            int warning = w;
            rows.add(List.of(p -> "write " + p.write(warning), Tapes::all));
        }
        return rows;
    }

    private static void addRows(List<List<Function<BergPatrol, String>>> rows, List<Function<BergPatrol, String>> all,
            Function<BergPatrol, String> first) {
        for (int i = 0; i < all.size(); i += IN_A_ROW) {
            List<Function<BergPatrol, String>> row = new ArrayList<>();
            row.add(first);
            row.addAll(all.subList(i, Math.min(all.size(), i + IN_A_ROW)));
            rows.add(row);
        }
    }

    private static void addCounts(List<Function<BergPatrol, String>> all, boolean withFault) {
        for (int i = 0; i <= 7; i++) {
            int what = i;
            all.add(p -> "count" + what + "=" + p.count(what));
        }
        if (withFault) {
            all.add(p -> "fault=" + p.fault());
        }
        all.add(p -> "limit=" + p.limit());
        for (int i = 0; i < 40; i++) {
            int k = i;
            all.add(p -> p.corner(k / 2, k % 2 == 1) + "");
        }
        all.add(p -> "flight=" + p.flight());
        for (int i = 0; i < 400; i++) {
            int k = i;
            all.add(p -> p.taped(k) + "");
        }
    }

    private static void addWarnings(List<Function<BergPatrol, String>> all, int warnings, int now) {
        for (int w = 0; w < warnings; w++) {
            for (int s = now - 3; s <= now + 1; s++) {
                int warning = w;
                int step = s;
                all.add(p -> "force" + warning + "," + step + "=" + p.force(warning, step));
            }
        }
        for (int s = 0; s < Seas.SQUARES; s++) {
            int square = s;
            all.add(p -> p.way(square, square, now) + "");
            all.add(p -> p.way(square, square, -1) + "");
        }
    }

    private static void addBergs(List<Function<BergPatrol, String>> all, int bergs) {
        for (int b = 0; b < bergs; b++) {
            int berg = b;
            for (int w = 0; w <= 5; w++) {
                int what = w;
                all.add(p -> "berg" + berg + "," + what + "=" + p.berg(berg, what));
            }
            for (int s = 0; s < Seas.SQUARES; s++) {
                int square = s;
                all.add(p -> p.parts(berg, square) + "");
            }
        }
    }
}
