/**
 * Forms found in a row of notes: passages that come again by pitches, steps, turns, lengths; how many
 * different ones there are, after how many all comes again; a motive found turned, backwards, in other
 * lengths; its answer; sections of least cost; how much alike two passages are.
 */
public final class FormFinds {
    public static final int NONE = -1;

    private static final int MOST_NOTES = 60;
    private static final int TOP_PITCH = 127;
    private static final int TOP_LENGTH = 999;
    private static final int MOST_MOTIVE_NOTES = 12;

    private static final int VIEWS = 5;
    private static final int VIEW_PITCHES = 0;
    private static final int VIEW_STEPS = 1;
    private static final int VIEW_TURNS = 2;
    private static final int VIEW_LENGTHS = 3;

    private static final int FORMS = 4;
    private static final int FORM_TURNED = 1;
    private static final int FORM_BACKWARDS = 2;
    private static final int FORM_BACKWARDS_TURNED = 3;
    private static final int TOP_SCALE = 9;

    private static final int OCTAVE = 12;
    private static final int FIFTH = 7;
    private static final int FOURTH = 5;
    private static final int TOP_HEAD = 12;

    private static final int TOP_BASE = 1000;
    private static final int TOP_BY = 100;

    private final NoteRow notes;
    private final NoteRow theme;
    private final NoteRow sought;
    private final ItemRow row;
    private final RepeatList again;
    private final PlaceList places;
    private final Parting parting;

    public FormFinds() {
        notes = new NoteRow();
        theme = new NoteRow();
        sought = new NoteRow();
        row = new ItemRow();
        again = new RepeatList();
        places = new PlaceList();
        parting = new Parting();
    }

    public int clear() {
        int before = notes.size;
        notes.size = 0;
        theme.size = 0;
        again.size = 0;
        places.size = 0;
        parting.size = 0;
        parting.cost = 0;
        return before;
    }

    public int note(int pitch, int length) throws IllegalArgumentException, IllegalStateException {
        if (!isWithin(pitch, 0, TOP_PITCH) || !isWithin(length, 1, TOP_LENGTH)) {
            throw new IllegalArgumentException("no such pitch or length");
        }
        if (notes.size >= MOST_NOTES) {
            throw new IllegalStateException("there are 60 notes");
        }
        notes.append(pitch, length);
        return notes.size - 1;
    }

    public int drop(int n) throws IllegalArgumentException {
        if (!isWithin(n, 0, notes.size)) {
            throw new IllegalArgumentException("there are not so many notes");
        }
        notes.size -= n;
        return notes.size;
    }

    public int items(int view) throws IllegalArgumentException {
        if (!isView(view)) {
            throw new IllegalArgumentException("no such view");
        }
        return ItemRow.countIn(notes, view);
    }

    public int item(int view, int i) throws IllegalArgumentException {
        if (!isView(view) || !isWithin(i, 0, ItemRow.countIn(notes, view) - 1)) {
            throw new IllegalArgumentException("no such view or item");
        }
        return ItemRow.valueIn(notes, view, i);
    }

    public int repeats(int view, int least) throws IllegalArgumentException {
        if (!isView(view) || !isWithin(least, 1, MOST_NOTES)) {
            throw new IllegalArgumentException("no such view or least length");
        }
        row.read(notes, view);
        again.gather(row, least);
        return again.size;
    }

    public int repeat(int k, int what) throws IllegalArgumentException {
        if (!isWithin(k, 0, again.size - 1) || !isWithin(what, 0, RepeatList.PARTS - 1)) {
            throw new IllegalArgumentException("no such repeat or part of it");
        }
        return again.partOf(k, what);
    }

    public int passages(int view, int m) throws IllegalArgumentException {
        if (!isView(view) || !isWithin(m, 1, MOST_NOTES)) {
            throw new IllegalArgumentException("no such view or length");
        }
        row.read(notes, view);
        return row.countDifferent(m);
    }

    public int period(int view) throws IllegalArgumentException {
        if (!isView(view)) {
            throw new IllegalArgumentException("no such view");
        }
        row.read(notes, view);
        return row.leastPeriod();
    }

    public int alike(int view, int i, int j, int m) throws IllegalArgumentException, ArithmeticException {
        if (!isView(view) || m < 0) {
            throw new IllegalArgumentException("no such view or length");
        }
        // With m of 0 the place right behind the last item still has its 0 items.
        int lastPlace = ItemRow.countIn(notes, view) - m;
        if (!isWithin(i, 0, lastPlace) || !isWithin(j, 0, lastPlace)) {
            throw new IllegalArgumentException("there are not so many items");
        }
        if (m == 0) {
            throw new ArithmeticException("no items to set side by side");
        }
        row.read(notes, view);
        return 100 * row.countSame(i, j, m) / m;
    }

    public int motive(int from, int n) throws IllegalArgumentException {
        if (!isWithin(n, 1, MOST_MOTIVE_NOTES) || !isWithin(from, 0, notes.size - n)) {
            throw new IllegalArgumentException("no such notes");
        }
        theme.size = 0;
        for (int i = from; i < from + n; i++) {
            theme.append(notes.pitches[i], notes.lengths[i]);
        }
        return theme.pitches[0];
    }

    public int form(int form, int i, int what) throws IllegalArgumentException {
        if (!isForm(form) || !isWithin(i, 0, theme.size - 1) || !isWithin(what, 0, 1)) {
            throw new IllegalArgumentException("no such form, note or part of it");
        }
        return what == 0 ? formPitch(form, i) : formLength(form, i);
    }

    public int find(int form, int up, int down) throws IllegalArgumentException, IllegalStateException {
        if (!isForm(form) || !isScale(up, down)) {
            throw new IllegalArgumentException("no such form or scale of lengths");
        }
        if (theme.size == 0) {
            throw new IllegalStateException("there is no motive");
        }
        sought.size = 0;
        for (int i = 0; i < theme.size; i++) {
            sought.append(formPitch(form, i), formLength(form, i));
        }
        lookForSought(up, down);
        return places.size;
    }

    public int answer(int key, int head, int i) throws IllegalArgumentException {
        if (!isKeyAndHead(key, head) || !isWithin(i, 0, theme.size - 1)) {
            throw new IllegalArgumentException("no such key, head or note");
        }
        return answerPitch(key, head, i);
    }

    public int entries(int key, int head) throws IllegalArgumentException, IllegalStateException {
        if (!isKeyAndHead(key, head)) {
            throw new IllegalArgumentException("no such key or head");
        }
        if (theme.size == 0) {
            throw new IllegalStateException("there is no motive");
        }
        sought.size = 0;
        for (int i = 0; i < theme.size; i++) {
            sought.append(answerPitch(key, head, i), theme.lengths[i]);
        }
        lookForSought(0, 0);
        return places.size;
    }

    public int found(int k) throws IllegalArgumentException {
        if (k < 0) {
            throw new IllegalArgumentException("below 0");
        }
        return k < places.size ? places.starts[k] : NONE;
    }

    public int sections(int base, int by) throws IllegalArgumentException {
        if (!isWithin(base, 0, TOP_BASE) || !isWithin(by, 0, TOP_BY)) {
            throw new IllegalArgumentException("no such costs");
        }
        parting.part(notes, base, by);
        return parting.size;
    }

    public int section(int k) throws IllegalArgumentException {
        if (k < 0) {
            throw new IllegalArgumentException("below 0");
        }
        return k < parting.size ? parting.starts[k] : NONE;
    }

    public int of(int what) throws IllegalArgumentException {
        switch (what) {
            case 0:
                return notes.size;
            case 1:
                return theme.size;
            case 2:
                return parting.cost;
            case 3:
                return places.size;
            case 4:
                return again.size;
            default:
                throw new IllegalArgumentException("no such number");
        }
    }

    private static boolean isWithin(int number, int least, int most) {
        return number >= least && number <= most;
    }

    private static boolean isView(int view) {
        return isWithin(view, 0, VIEWS - 1);
    }

    private static boolean isForm(int form) {
        return isWithin(form, 0, FORMS - 1);
    }

    private static boolean isScale(int up, int down) {
        boolean lengthsDoNotCount = up == 0 && down == 0;
        return lengthsDoNotCount || isWithin(up, 1, TOP_SCALE) && isWithin(down, 1, TOP_SCALE);
    }

    private static boolean isKeyAndHead(int key, int head) {
        return isWithin(key, 0, OCTAVE - 1) && isWithin(head, 0, TOP_HEAD);
    }

    private int formPitch(int form, int i) {
        int pitch = theme.pitches[placeInTheme(form, i)];
        boolean turned = form == FORM_TURNED || form == FORM_BACKWARDS_TURNED;
        return turned ? 2 * theme.pitches[placeInTheme(form, 0)] - pitch : pitch;
    }

    private int formLength(int form, int i) {
        return theme.lengths[placeInTheme(form, i)];
    }

    private int placeInTheme(int form, int i) {
        boolean backwards = form == FORM_BACKWARDS || form == FORM_BACKWARDS_TURNED;
        return backwards ? theme.size - 1 - i : i;
    }

    private int answerPitch(int key, int head, int i) {
        int pitch = theme.pitches[i];
        boolean answeredByKey = i < head && Math.floorMod(pitch - key, OCTAVE) == FIFTH;
        return pitch + (answeredByKey ? FOURTH : FIFTH);
    }

    private void lookForSought(int up, int down) {
        places.size = 0;
        for (int start = 0; start + sought.size <= notes.size; start++) {
            if (isSoughtAt(start, up, down)) {
                places.append(start);
            }
        }
    }

    /** Up and down of 0 make both sides of the lengths' test 0, so that lengths do not count. */
    private boolean isSoughtAt(int start, int up, int down) {
        for (int i = 0; i < sought.size; i++) {
            if (i > 0 && notes.stepTo(start + i) != sought.stepTo(i)) {
                return false;
            }
            if (notes.lengths[start + i] * down != sought.lengths[i] * up) {
                return false;
            }
        }
        return true;
    }

    /** Notes one behind the other; its arrays are made once, so that a call makes none. */
    private static final class NoteRow {
        final int[] pitches = new int[MOST_NOTES];
        final int[] lengths = new int[MOST_NOTES];
        int size;

        void append(int pitch, int length) {
            if (size < MOST_NOTES) {
                pitches[size] = pitch;
                lengths[size] = length;
                size++;
            }
        }

        /** From the note ahead of i to note i, so i is 1 or more. */
        int stepTo(int i) {
            return pitches[i] - pitches[i - 1];
        }
    }

    /** The items of one view, each as one number, so that all views are looked at alike. */
    private static final class ItemRow {
        final int[] values = new int[MOST_NOTES];
        int size;

        static int countIn(NoteRow notes, int view) {
            boolean betweenNotes = view == VIEW_STEPS || view == VIEW_TURNS;
            return betweenNotes && notes.size > 0 ? notes.size - 1 : notes.size;
        }

        static int valueIn(NoteRow notes, int view, int i) {
            switch (view) {
                case VIEW_PITCHES:
                    return notes.pitches[i];
                case VIEW_STEPS:
                    return notes.stepTo(i + 1);
                case VIEW_TURNS:
                    return Integer.signum(notes.stepTo(i + 1));
                case VIEW_LENGTHS:
                    return notes.lengths[i];
                default:
                    return notes.pitches[i] * (TOP_LENGTH + 1) + notes.lengths[i];
            }
        }

        void read(NoteRow notes, int view) {
            size = countIn(notes, view);
            for (int i = 0; i < size; i++) {
                values[i] = valueIn(notes, view, i);
            }
        }

        int countDifferent(int m) {
            int count = 0;
            for (int start = 0; start + m <= size; start++) {
                if (!cameBefore(start, m)) {
                    count++;
                }
            }
            return count;
        }

        private boolean cameBefore(int start, int m) {
            for (int earlier = 0; earlier < start; earlier++) {
                if (sameRun(earlier, start) >= m) {
                    return true;
                }
            }
            return false;
        }

        /** How many items from i on are those from j on, up to the first that is not; i less than j. */
        private int sameRun(int i, int j) {
            int run = 0;
            while (j + run < size && values[i + run] == values[j + run]) {
                run++;
            }
            return run;
        }

        /** The m of the repeat (i, j, m), 0 if none begins there; i less than j. */
        int repeatLength(int i, int j) {
            boolean goesOnAhead = i > 0 && values[i - 1] == values[j - 1];
            return goesOnAhead ? 0 : sameRun(i, j);
        }

        int leastPeriod() {
            for (int p = 1; p < size; p++) {
                if (sameRun(0, p) == size - p) {
                    return p;
                }
            }
            return size;
        }

        int countSame(int i, int j, int m) {
            int same = 0;
            for (int k = 0; k < m; k++) {
                if (values[i + k] == values[j + k]) {
                    same++;
                }
            }
            return same;
        }
    }

    /** Repeats in their order, three numbers each: i, j, m. */
    private static final class RepeatList {
        static final int PARTS = 3;
        // For each distance j - i the repeats lie apart by at least one place, so that the places
        // 59, 58, .., 1 of the distances hold at most 30 + 29 + 29 + .. + 1 + 1 repeats.
        static final int MOST = 900;

        final int[] parts = new int[PARTS * MOST];
        final int[] slots = new int[MOST_NOTES];
        int size;

        int partOf(int k, int what) {
            return parts[PARTS * k + what];
        }

        /** Counted first and put after, so that no sorting is needed: i and j rise in both walks. */
        void gather(ItemRow row, int least) {
            countByLength(row, least);
            giveSlotsLongestFirst();
            putInSlots(row, least);
        }

        private void countByLength(ItemRow row, int least) {
            for (int m = 0; m < MOST_NOTES; m++) {
                slots[m] = 0;
            }
            for (int i = 0; i < row.size; i++) {
                for (int j = i + 1; j < row.size; j++) {
                    int m = row.repeatLength(i, j);
                    if (m >= least) {
                        slots[m]++;
                    }
                }
            }
        }

        private void giveSlotsLongestFirst() {
            size = 0;
            for (int m = MOST_NOTES - 1; m > 0; m--) {
                int count = slots[m];
                slots[m] = size;
                size += count;
            }
        }

        private void putInSlots(ItemRow row, int least) {
            for (int i = 0; i < row.size; i++) {
                for (int j = i + 1; j < row.size; j++) {
                    int m = row.repeatLength(i, j);
                    if (m >= least) {
                        put(slots[m], i, j, m);
                        slots[m]++;
                    }
                }
            }
        }

        private void put(int k, int i, int j, int m) {
            if (k < MOST) {
                parts[PARTS * k] = i;
                parts[PARTS * k + 1] = j;
                parts[PARTS * k + 2] = m;
            }
        }
    }

    /** The places at which what was looked for last was found. */
    private static final class PlaceList {
        final int[] starts = new int[MOST_NOTES];
        int size;

        void append(int start) {
            if (size < MOST_NOTES) {
                starts[size] = start;
                size++;
            }
        }
    }

    /** Sections of least cost, weighed from the last note back: what is best from each note on. */
    private static final class Parting {
        final int[] starts = new int[MOST_NOTES];
        int size;
        int cost;

        private final int[] leastCost = new int[MOST_NOTES + 1];
        private final int[] fewest = new int[MOST_NOTES + 1];
        private final int[] firstEnd = new int[MOST_NOTES + 1];

        void part(NoteRow notes, int base, int by) {
            leastCost[notes.size] = 0;
            fewest[notes.size] = 0;
            for (int start = notes.size - 1; start >= 0; start--) {
                weighFrom(notes, start, base, by);
            }
            cost = leastCost[0];
            size = fewest[0];
            int start = 0;
            for (int k = 0; k < size; k++) {
                starts[k] = start;
                start = firstEnd[start];
            }
        }

        /** Ends are tried from the nearest on and only a better one is taken, so the next begins first. */
        private void weighFrom(NoteRow notes, int start, int base, int by) {
            int high = notes.pitches[start];
            int low = high;
            for (int end = start + 1; end <= notes.size; end++) {
                high = Math.max(high, notes.pitches[end - 1]);
                low = Math.min(low, notes.pitches[end - 1]);
                int costs = base + by * (high - low) + leastCost[end];
                int parts = 1 + fewest[end];
                if (end == start + 1 || isBetter(start, costs, parts)) {
                    leastCost[start] = costs;
                    fewest[start] = parts;
                    firstEnd[start] = end;
                }
            }
        }

        private boolean isBetter(int start, int costs, int parts) {
            return costs < leastCost[start] || costs == leastCost[start] && parts < fewest[start];
        }
    }
}
