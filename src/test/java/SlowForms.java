import java.util.ArrayList;
import java.util.Comparator;
import java.util.HashSet;
import java.util.List;
import java.util.Set;

/** The document's words once more, said as slowly and plainly as can be, to hold FormFinds against. */
final class SlowForms {
    private static final int FEW_NOTES = 11;

    private record Note(int pitch, int length) { }

    private record Repeat(int i, int j, int m) { }

    private record Parts(int cost, List<Integer> starts) { }

    private static final Comparator<Parts> DUE_FIRST = (a, b) -> {
        if (a.cost != b.cost) {
            return Integer.compare(a.cost, b.cost);
        }
        if (a.starts.size() != b.starts.size()) {
            return Integer.compare(a.starts.size(), b.starts.size());
        }
        for (int k = 0; k < a.starts.size(); k++) {
            if (!a.starts.get(k).equals(b.starts.get(k))) {
                return Integer.compare(a.starts.get(k), b.starts.get(k));
            }
        }
        return 0;
    };

    private List<Note> notes = new ArrayList<>();
    private List<Note> motive = List.of();
    private List<Repeat> repeats = List.of();
    private List<Integer> found = List.of();
    private Parts parts = new Parts(0, List.of());

    int clear() {
        int before = notes.size();
        notes = new ArrayList<>();
        motive = List.of();
        repeats = List.of();
        found = List.of();
        parts = new Parts(0, List.of());
        return before;
    }

    int note(int pitch, int length) {
        allow(0 <= pitch && pitch <= 127 && 1 <= length && length <= 999);
        if (notes.size() == 60) {
            throw new IllegalStateException();
        }
        notes.add(new Note(pitch, length));
        return notes.size() - 1;
    }

    int drop(int n) {
        allow(0 <= n && n <= notes.size());
        notes = new ArrayList<>(notes.subList(0, notes.size() - n));
        return notes.size();
    }

    int items(int view) {
        return viewOf(view).size();
    }

    int item(int view, int i) {
        List<Integer> row = viewOf(view);
        allow(0 <= i && i < row.size());
        return row.get(i);
    }

    int repeats(int view, int least) {
        List<Integer> row = viewOf(view);
        allow(1 <= least && least <= 60);
        List<Repeat> all = new ArrayList<>();
        for (int j = 0; j < row.size(); j++) {
            for (int i = 0; i < j; i++) {
                for (int m = least; j + m <= row.size(); m++) {
                    if (isRepeat(row, i, j, m)) {
                        all.add(new Repeat(i, j, m));
                    }
                }
            }
        }
        all.sort(Comparator.comparingInt((Repeat r) -> -r.m).thenComparingInt(r -> r.i).thenComparingInt(r -> r.j));
        repeats = all;
        return all.size();
    }

    private static boolean isRepeat(List<Integer> row, int i, int j, int m) {
        return row.subList(i, i + m).equals(row.subList(j, j + m))
            && (i == 0 || !row.get(i - 1).equals(row.get(j - 1)))
            && (j + m == row.size() || !row.get(i + m).equals(row.get(j + m)));
    }

    int repeat(int k, int what) {
        allow(0 <= k && k < repeats.size() && 0 <= what && what <= 2);
        Repeat r = repeats.get(k);
        return what == 0 ? r.i : what == 1 ? r.j : r.m;
    }

    int passages(int view, int m) {
        List<Integer> row = viewOf(view);
        allow(1 <= m && m <= 60);
        Set<List<Integer>> different = new HashSet<>();
        for (int i = 0; i + m <= row.size(); i++) {
            different.add(row.subList(i, i + m));
        }
        return different.size();
    }

    int period(int view) {
        List<Integer> row = viewOf(view);
        if (row.isEmpty()) {
            return 0;
        }
        int p = 1;
        while (!row.subList(p, row.size()).equals(row.subList(0, row.size() - p))) {
            p++;
        }
        return p;
    }

    int alike(int view, int i, int j, int m) {
        List<Integer> row = viewOf(view);
        allow(m >= 0 && i >= 0 && j >= 0 && (long) i + m <= row.size() && (long) j + m <= row.size());
        if (m == 0) {
            throw new ArithmeticException();
        }
        int same = 0;
        for (int k = 0; k < m; k++) {
            same += row.get(i + k).equals(row.get(j + k)) ? 1 : 0;
        }
        return 100 * same / m;
    }

    int motive(int from, int n) {
        allow(1 <= n && n <= 12 && from >= 0 && (long) from + n <= notes.size());
        motive = List.copyOf(notes.subList(from, from + n));
        return motive.get(0).pitch;
    }

    int form(int form, int i, int what) {
        allow(0 <= form && form <= 3 && 0 <= what && what <= 1 && 0 <= i && i < motive.size());
        Note n = formOf(form).get(i);
        return what == 0 ? n.pitch : n.length;
    }

    int find(int form, int up, int down) {
        boolean noLengths = up == 0 && down == 0;
        allow(0 <= form && form <= 3);
        allow(noLengths || 1 <= up && up <= 9 && 1 <= down && down <= 9);
        demandMotive();
        List<Note> sought = formOf(form);
        found = placesOfSteps(sought);
        if (!noLengths) {
            found.removeIf(place -> !lengthsFit(sought, place, up, down));
        }
        return found.size();
    }

    int answer(int key, int head, int i) {
        allow(0 <= key && key <= 11 && 0 <= head && head <= 12 && 0 <= i && i < motive.size());
        return answerOf(key, head).get(i).pitch;
    }

    int entries(int key, int head) {
        allow(0 <= key && key <= 11 && 0 <= head && head <= 12);
        demandMotive();
        found = placesOfSteps(answerOf(key, head));
        return found.size();
    }

    int found(int k) {
        allow(k >= 0);
        return k < found.size() ? found.get(k) : -1;
    }

    int sections(int base, int by) {
        allow(0 <= base && base <= 1000 && 0 <= by && by <= 100);
        parts = notes.size() <= FEW_NOTES ? bestOfAll(base, by) : bestGrown(base, by);
        return parts.starts.size();
    }

    int section(int k) {
        allow(k >= 0);
        return k < parts.starts.size() ? parts.starts.get(k) : -1;
    }

    int of(int what) {
        allow(0 <= what && what <= 4);
        int[] numbers = {notes.size(), motive.size(), parts.cost, found.size(), repeats.size()};
        return numbers[what];
    }

    private static void allow(boolean isRight) {
        if (!isRight) {
            throw new IllegalArgumentException();
        }
    }

    private void demandMotive() {
        if (motive.isEmpty()) {
            throw new IllegalStateException();
        }
    }

    private List<Integer> viewOf(int view) {
        allow(0 <= view && view <= 4);
        List<Integer> row = new ArrayList<>();
        for (Note n : notes) {
            row.add(view == 3 ? n.length : view == 4 ? 1000 * n.pitch + n.length : n.pitch);
        }
        if (view == 1 || view == 2) {
            row = stepsOf(notes);
        }
        if (view == 2) {
            row.replaceAll(step -> step > 0 ? 1 : step < 0 ? -1 : 0);
        }
        return row;
    }

    private static List<Integer> stepsOf(List<Note> some) {
        List<Integer> steps = new ArrayList<>();
        for (int i = 1; i < some.size(); i++) {
            steps.add(some.get(i).pitch - some.get(i - 1).pitch);
        }
        return steps;
    }

    private List<Note> formOf(int form) {
        List<Note> row = new ArrayList<>(motive);
        if (form >= 2) {
            java.util.Collections.reverse(row);
        }
        return form == 1 || form == 3 ? turned(row) : row;
    }

    private static List<Note> turned(List<Note> some) {
        List<Integer> steps = stepsOf(some);
        List<Note> row = new ArrayList<>();
        int pitch = some.get(0).pitch;
        for (int i = 0; i < some.size(); i++) {
            pitch -= i == 0 ? 0 : steps.get(i - 1);
            row.add(new Note(pitch, some.get(i).length));
        }
        return row;
    }

    private List<Note> answerOf(int key, int head) {
        List<Note> row = new ArrayList<>();
        for (Note n : motive) {
            boolean isFifth = n.pitch % 12 == (key + 7) % 12;
            row.add(new Note(n.pitch + (row.size() < head && isFifth ? 5 : 7), n.length));
        }
        return row;
    }

    private List<Integer> placesOfSteps(List<Note> sought) {
        List<Integer> places = new ArrayList<>();
        for (int i = 0; i + sought.size() <= notes.size(); i++) {
            if (stepsOf(notes.subList(i, i + sought.size())).equals(stepsOf(sought))) {
                places.add(i);
            }
        }
        return places;
    }

    private boolean lengthsFit(List<Note> sought, int place, int up, int down) {
        for (int i = 0; i < sought.size(); i++) {
            if (notes.get(place + i).length * down != sought.get(i).length * up) {
                return false;
            }
        }
        return true;
    }

    private int costOf(int start, int end, int base, int by) {
        int high = 0;
        int low = 127;
        for (Note n : notes.subList(start, end)) {
            high = Math.max(high, n.pitch);
            low = Math.min(low, n.pitch);
        }
        return base + by * (high - low);
    }

    /** Every way to part the notes, a bit for each place at which a section may begin. */
    private Parts bestOfAll(int base, int by) {
        Parts best = null;
        for (int ways = 0; ways < 1 << Math.max(notes.size() - 1, 0); ways++) {
            List<Integer> starts = new ArrayList<>();
            for (int i = 0; i < notes.size(); i++) {
                if (i == 0 || (ways >> (i - 1) & 1) == 1) {
                    starts.add(i);
                }
            }
            int cost = 0;
            for (int k = 0; k < starts.size(); k++) {
                int end = k + 1 < starts.size() ? starts.get(k + 1) : notes.size();
                cost += costOf(starts.get(k), end, base, by);
            }
            Parts these = new Parts(cost, starts);
            best = best == null || DUE_FIRST.compare(these, best) < 0 ? these : best;
        }
        return best;
    }

    /** For many notes: the best of the first e notes, grown by a last section from each s on. */
    private Parts bestGrown(int base, int by) {
        List<Parts> best = new ArrayList<>(List.of(new Parts(0, List.of())));
        for (int e = 1; e <= notes.size(); e++) {
            Parts bestHere = null;
            for (int s = 0; s < e; s++) {
                List<Integer> starts = new ArrayList<>(best.get(s).starts);
                starts.add(s);
                Parts these = new Parts(best.get(s).cost + costOf(s, e, base, by), starts);
                bestHere = bestHere == null || DUE_FIRST.compare(these, bestHere) < 0 ? these : bestHere;
            }
            best.add(bestHere);
        }
        return best.get(notes.size());
    }
}
