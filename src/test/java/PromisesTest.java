/** Each promise of the document by hand: ordinary inputs, the edges it names, wrong inputs. */
final class PromisesTest {
    private static final int LOW = Rows.LOW;
    private static final int HIGH = Rows.HIGH;
    private static final Checks CHECKS = new Checks();

    public static void main(String[] args) {
        promise1NewObject();
        promise2Clear();
        promise3Note();
        promise4Drop();
        promise5Items();
        promise6Item();
        promise7Repeats();
        promise7RepeatsOfOneItem();
        promise7ManyRepeats();
        promise8Repeat();
        promise9Passages();
        promise10Period();
        promise11Alike();
        promise12Motive();
        promise13Form();
        promise14Find();
        promise14FindInOtherLengths();
        promise15Answer();
        promise16Entries();
        promise17Found();
        promise18Sections();
        promise18SectionsAlikeInCost();
        promise19Section();
        promise20Of();
        whatWasFoundStays();
        throwingChangesNothing();
        CHECKS.finish();
    }

    private static void isAsNew(String when, FormFinds x) {
        for (int what = 0; what <= 4; what++) {
            int w = what;
            CHECKS.due(when + " of(" + w + ")", 0, () -> x.of(w));
        }
        for (int view = 0; view <= 4; view++) {
            int v = view;
            CHECKS.due(when + " items(" + v + ")", 0, () -> x.items(v));
        }
        CHECKS.illegalArgument(when + " repeat(0, 0)", () -> x.repeat(0, 0));
        CHECKS.due(when + " found(0)", -1, () -> x.found(0));
        CHECKS.due(when + " section(0)", -1, () -> x.section(0));
        CHECKS.illegalArgument(when + " form(0, 0, 0)", () -> x.form(0, 0, 0));
        CHECKS.illegalArgument(when + " answer(0, 0, 0)", () -> x.answer(0, 0, 0));
        CHECKS.illegalState(when + " find(0, 0, 0)", () -> x.find(0, 0, 0));
        CHECKS.illegalState(when + " entries(0, 0)", () -> x.entries(0, 0));
    }

    private static void promise1NewObject() {
        isAsNew("new", new FormFinds());
    }

    private static void promise2Clear() {
        FormFinds x = Rows.pitches(60, 60, 62, 60);
        x.motive(0, 2);
        x.find(0, 0, 0);
        x.repeats(0, 1);
        x.sections(1, 1);
        CHECKS.due("clear() of 4", 4, x::clear);
        isAsNew("cleared", x);
        CHECKS.due("clear() of none", 0, x::clear);
        CHECKS.due("note behind clear()", 0, () -> x.note(1, 1));
        CHECKS.due("clear() of 60", 60, Rows.full()::clear);
    }

    private static void promise3Note() {
        FormFinds x = new FormFinds();
        CHECKS.due("note(0, 1)", 0, () -> x.note(0, 1));
        CHECKS.due("note(127, 999)", 1, () -> x.note(127, 999));
        for (int wrong : new int[] {LOW, -1, 128, HIGH}) {
            CHECKS.illegalArgument("note of pitch " + wrong, () -> x.note(wrong, 1));
        }
        for (int wrong : new int[] {LOW, -1, 0, 1000, HIGH}) {
            CHECKS.illegalArgument("note of length " + wrong, () -> x.note(60, wrong));
        }
        CHECKS.due("notes behind wrong ones", 2, () -> x.of(0));
        for (int i = 2; i < 60; i++) {
            int number = i;
            CHECKS.due("note " + number, number, () -> x.note(number, number));
        }
        CHECKS.illegalState("the note behind 60", () -> x.note(60, 1));
        CHECKS.illegalArgument("a wrong note behind 60", () -> x.note(128, 1));
        CHECKS.illegalArgument("a note of no length behind 60", () -> x.note(60, 0));
        CHECKS.due("notes at last", 60, () -> x.of(0));
    }

    private static void promise4Drop() {
        FormFinds x = Rows.with(60, 1, 61, 2, 62, 3);
        CHECKS.due("drop(0)", 3, () -> x.drop(0));
        CHECKS.illegalArgument("drop(4) of 3", () -> x.drop(4));
        CHECKS.illegalArgument("drop(-1)", () -> x.drop(-1));
        CHECKS.illegalArgument("drop(LOW)", () -> x.drop(LOW));
        CHECKS.illegalArgument("drop(HIGH)", () -> x.drop(HIGH));
        CHECKS.due("drop(1)", 2, () -> x.drop(1));
        CHECKS.same("those that are left", "60001 61002 ", Rows.items(x, 4));
        CHECKS.due("note behind drop", 2, () -> x.note(70, 9));
        CHECKS.same("the new one", "60001 61002 70009 ", Rows.items(x, 4));
        CHECKS.due("drop(3)", 0, () -> x.drop(3));
        CHECKS.illegalArgument("drop(1) of none", () -> x.drop(1));
        CHECKS.due("drop(0) of none", 0, () -> x.drop(0));
        FormFinds y = Rows.full();
        y.drop(1);
        CHECKS.due("note 59 again", 59, () -> y.note(1, 1));
    }

    private static void promise5Items() {
        FormFinds none = new FormFinds();
        FormFinds one = Rows.pitches(60);
        FormFinds all = Rows.full();
        int[] oneLess = {0, 1, 1, 0, 0};
        for (int view = 0; view <= 4; view++) {
            int v = view;
            CHECKS.due("items of none, view " + v, 0, () -> none.items(v));
            CHECKS.due("items of one, view " + v, 1 - oneLess[v], () -> one.items(v));
            CHECKS.due("items of 60, view " + v, 60 - oneLess[v], () -> all.items(v));
        }
        for (int wrong : new int[] {LOW, -1, 5, HIGH}) {
            CHECKS.illegalArgument("items of view " + wrong, () -> all.items(wrong));
        }
    }

    private static void promise6Item() {
        FormFinds x = Rows.with(60, 4, 67, 2, 67, 999, 0, 1, 127, 8);
        CHECKS.same("pitches", "60 67 67 0 127 ", Rows.items(x, 0));
        CHECKS.same("steps", "7 0 -67 127 ", Rows.items(x, 1));
        CHECKS.same("turns", "1 0 -1 1 ", Rows.items(x, 2));
        CHECKS.same("lengths", "4 2 999 1 8 ", Rows.items(x, 3));
        CHECKS.same("pitches and lengths", "60004 67002 67999 1 127008 ", Rows.items(x, 4));
        for (int view = 0; view <= 4; view++) {
            int v = view;
            int behind = x.items(v);
            for (int wrong : new int[] {LOW, -1, behind, HIGH}) {
                CHECKS.illegalArgument("item(" + v + ", " + wrong + ")", () -> x.item(v, wrong));
            }
            CHECKS.illegalArgument("item of none, view " + v, () -> new FormFinds().item(v, 0));
        }
        CHECKS.illegalArgument("item(-1, 0)", () -> x.item(-1, 0));
        CHECKS.illegalArgument("item(5, 0)", () -> x.item(5, 0));
        CHECKS.illegalArgument("step of one note", () -> Rows.pitches(1).item(1, 0));
    }

    private static void promise7Repeats() {
        // a b a b a: over one another, and the order of those of one length
        FormFinds x = Rows.pitches(60, 62, 60, 62, 60);
        CHECKS.due("repeats of ababa", 2, () -> x.repeats(0, 1));
        CHECKS.same("ababa", "(0,2,3)(0,4,1)", Rows.repeats(x));
        CHECKS.due("repeats of ababa, 2 at least", 1, () -> x.repeats(0, 2));
        CHECKS.due("repeats of ababa, 3 at least", 1, () -> x.repeats(0, 3));
        CHECKS.due("repeats of ababa, 4 at least", 0, () -> x.repeats(0, 4));
        CHECKS.due("repeats of ababa, 60 at least", 0, () -> x.repeats(0, 60));
        // a b c a b d a b: greater m first, then lesser i, then lesser j
        FormFinds y = Rows.with(1, 1, 2, 1, 3, 2, 1, 1, 2, 1, 4, 3, 1, 1, 2, 2);
        y.repeats(0, 1);
        CHECKS.same("abcabdab", "(0,3,2)(0,6,2)(3,6,2)", Rows.repeats(y));
        y.repeats(4, 1);
        CHECKS.same("abcabdaB", "(0,3,2)(0,6,1)(3,6,1)", Rows.repeats(y));
        y.repeats(1, 1);
        CHECKS.same("steps of abcabdab", "(0,1,1)(0,3,1)(0,6,1)(1,3,1)(1,6,1)(3,6,1)", Rows.repeats(y));
        y.repeats(3, 2);
        CHECKS.same("lengths of it", "(0,3,2)(1,6,2)", Rows.repeats(y));
        for (int wrong : new int[] {LOW, -1, 5, HIGH}) {
            CHECKS.illegalArgument("repeats of view " + wrong, () -> x.repeats(wrong, 1));
        }
        for (int wrong : new int[] {LOW, -1, 0, 61, HIGH}) {
            CHECKS.illegalArgument("repeats of at least " + wrong, () -> x.repeats(0, wrong));
        }
        CHECKS.due("repeats of no notes", 0, () -> new FormFinds().repeats(0, 1));
        CHECKS.due("repeats of one note", 0, () -> Rows.pitches(1).repeats(0, 1));
    }

    private static void promise7RepeatsOfOneItem() {
        FormFinds x = Rows.full();
        CHECKS.due("repeats of 60 alike", 59, () -> x.repeats(0, 1));
        for (int k : new int[] {0, 1, 30, 58}) {
            CHECKS.due("i of " + k, 0, () -> x.repeat(k, 0));
            CHECKS.due("j of " + k, k + 1, () -> x.repeat(k, 1));
            CHECKS.due("m of " + k, 59 - k, () -> x.repeat(k, 2));
        }
        CHECKS.due("repeats of 59 steps alike", 58, () -> x.repeats(1, 1));
        CHECKS.due("repeats of 60 alike, 59 at least", 1, () -> x.repeats(4, 59));
    }

    /** a a b b, again and again: 14 long repeats, and 450 of one item. */
    private static void promise7ManyRepeats() {
        FormFinds x = new FormFinds();
        for (int i = 0; i < 60; i++) {
            x.note(60 + i / 2 % 2, 1);
        }
        CHECKS.due("repeats of aabb..", 464, () -> x.repeats(0, 1));
        int[][] want = {{0, 0, 4, 56}, {13, 0, 56, 4}, {14, 0, 1, 1}, {463, 58, 59, 1}};
        for (int[] w : want) {
            for (int what = 0; what <= 2; what++) {
                int n = what;
                CHECKS.due("repeat(" + w[0] + ", " + n + ")", w[n + 1], () -> x.repeat(w[0], n));
            }
        }
        CHECKS.illegalArgument("repeat(464, 0)", () -> x.repeat(464, 0));
    }

    private static void promise8Repeat() {
        FormFinds x = Rows.pitches(60, 62, 60, 62, 60);
        CHECKS.illegalArgument("repeat(0, 0) before any", () -> x.repeat(0, 0));
        x.repeats(0, 1);
        for (int wrong : new int[] {LOW, -1, 2, HIGH}) {
            CHECKS.illegalArgument("repeat(" + wrong + ", 0)", () -> x.repeat(wrong, 0));
        }
        for (int wrong : new int[] {LOW, -1, 3, HIGH}) {
            CHECKS.illegalArgument("repeat(0, " + wrong + ")", () -> x.repeat(0, wrong));
        }
        CHECKS.due("repeat(1, 0)", 0, () -> x.repeat(1, 0));
        CHECKS.due("repeat(1, 1)", 4, () -> x.repeat(1, 1));
        CHECKS.due("repeat(1, 2)", 1, () -> x.repeat(1, 2));
        x.repeats(0, 4);
        CHECKS.illegalArgument("repeat(0, 0) of none", () -> x.repeat(0, 0));
    }

    private static void promise9Passages() {
        FormFinds x = Rows.with(60, 1, 62, 1, 60, 2, 62, 1, 60, 1);
        int[][] want = {{2, 2, 2, 2, 1, 0}, {2, 2, 2, 1, 0, 0}, {2, 2, 2, 1, 0, 0}, {2, 3, 3, 2, 1, 0},
            {3, 4, 3, 2, 1, 0}};
        for (int view = 0; view <= 4; view++) {
            for (int m = 1; m <= 6; m++) {
                int v = view;
                int n = m;
                CHECKS.due("passages(" + v + ", " + n + ")", want[v][n - 1], () -> x.passages(v, n));
            }
        }
        CHECKS.due("passages(0, 60)", 0, () -> x.passages(0, 60));
        CHECKS.due("passages of 60 alike", 1, () -> Rows.full().passages(0, 60));
        CHECKS.due("passages of 59 steps", 0, () -> Rows.full().passages(1, 60));
        CHECKS.due("passages of none", 0, () -> new FormFinds().passages(0, 1));
        for (int wrong : new int[] {LOW, -1, 0, 61, HIGH}) {
            CHECKS.illegalArgument("passages(0, " + wrong + ")", () -> x.passages(0, wrong));
        }
        for (int wrong : new int[] {LOW, -1, 5, HIGH}) {
            CHECKS.illegalArgument("passages(" + wrong + ", 1)", () -> x.passages(wrong, 1));
        }
    }

    private static void promise10Period() {
        FormFinds x = Rows.with(60, 1, 62, 1, 64, 1, 60, 1, 62, 1);
        CHECKS.due("period of abcab", 3, () -> x.period(0));
        CHECKS.due("period of its steps", 3, () -> x.period(1));
        CHECKS.due("period of its lengths", 1, () -> x.period(3));
        CHECKS.due("period of both", 3, () -> x.period(4));
        x.note(60, 1);
        CHECKS.due("period of abcaba", 5, () -> x.period(0));
        CHECKS.due("period of all different", 3, () -> Rows.pitches(1, 2, 3).period(0));
        CHECKS.due("period of one", 1, () -> Rows.pitches(1).period(0));
        CHECKS.due("period of the steps of one", 0, () -> Rows.pitches(1).period(1));
        CHECKS.due("period of 60 alike", 1, () -> Rows.full().period(0));
        for (int view = 0; view <= 4; view++) {
            int v = view;
            CHECKS.due("period of none", 0, () -> new FormFinds().period(v));
        }
        for (int wrong : new int[] {LOW, -1, 5, HIGH}) {
            CHECKS.illegalArgument("period(" + wrong + ")", () -> x.period(wrong));
        }
    }

    private static void promise11Alike() {
        FormFinds x = Rows.pitches(60, 62, 64, 60, 63, 64);
        CHECKS.due("two of three alike, cut", 66, () -> x.alike(0, 0, 3, 3));
        CHECKS.due("steps not alike", 0, () -> x.alike(1, 0, 3, 2));
        CHECKS.due("turns alike", 100, () -> x.alike(2, 0, 3, 2));
        CHECKS.due("with itself", 100, () -> x.alike(0, 2, 2, 4));
        CHECKS.due("over one another", 0, () -> x.alike(0, 0, 1, 5));
        CHECKS.due("j before i", 66, () -> x.alike(0, 3, 0, 3));
        CHECKS.due("all", 100, () -> x.alike(0, 0, 0, 6));
        CHECKS.arithmetic("of no items", () -> x.alike(0, 0, 3, 0));
        CHECKS.arithmetic("of no items at the end", () -> x.alike(0, 6, 6, 0));
        CHECKS.arithmetic("of no items of none", () -> new FormFinds().alike(3, 0, 0, 0));
        CHECKS.illegalArgument("of no items behind the end", () -> x.alike(0, 7, 0, 0));
        CHECKS.illegalArgument("of no items, j behind the end", () -> x.alike(0, 0, 7, 0));
        CHECKS.illegalArgument("of no items of no place", () -> x.alike(0, -1, 0, 0));
        CHECKS.illegalArgument("of no items of no view", () -> x.alike(5, 0, 0, 0));
        CHECKS.illegalArgument("not so many from i", () -> x.alike(0, 4, 0, 3));
        CHECKS.illegalArgument("not so many from j", () -> x.alike(0, 0, 4, 3));
        CHECKS.illegalArgument("not so many steps", () -> x.alike(1, 0, 3, 3));
        for (int wrong : new int[] {LOW, -1, 6, HIGH}) {
            CHECKS.illegalArgument("i " + wrong, () -> x.alike(0, wrong, 0, 1));
            CHECKS.illegalArgument("j " + wrong, () -> x.alike(0, 0, wrong, 1));
        }
        for (int wrong : new int[] {LOW, -1, 7, HIGH}) {
            CHECKS.illegalArgument("m " + wrong, () -> x.alike(0, 0, 0, wrong));
        }
        CHECKS.illegalArgument("all too high", () -> x.alike(0, HIGH, HIGH, HIGH));
        CHECKS.illegalArgument("m and i below 0", () -> x.alike(0, -1, 0, -1));
        for (int wrong : new int[] {LOW, -1, 5, HIGH}) {
            CHECKS.illegalArgument("view " + wrong, () -> x.alike(wrong, 0, 0, 1));
        }
    }

    private static void promise12Motive() {
        FormFinds x = Rows.with(60, 1, 62, 2, 64, 3);
        CHECKS.due("motive(1, 2)", 62, () -> x.motive(1, 2));
        CHECKS.due("its notes", 2, () -> x.of(1));
        for (int wrong : new int[] {LOW, -1, 0, 4, 13, HIGH}) {
            CHECKS.illegalArgument("motive(0, " + wrong + ")", () -> x.motive(0, wrong));
        }
        for (int wrong : new int[] {LOW, -1, 2, 3, HIGH}) {
            CHECKS.illegalArgument("motive(" + wrong + ", 2)", () -> x.motive(wrong, 2));
        }
        CHECKS.illegalArgument("motive of no notes", () -> new FormFinds().motive(0, 1));
        CHECKS.same("the motive is still", "62/2 64/3 ", Rows.form(x, 0));
        x.drop(3);
        x.note(1, 1);
        CHECKS.same("as it was when told", "62/2 64/3 ", Rows.form(x, 0));
        CHECKS.due("a lesser one", 1, () -> x.motive(0, 1));
        CHECKS.same("the lesser one", "1/1 ", Rows.form(x, 0));
        FormFinds all = Rows.full();
        CHECKS.due("motive(48, 12)", 64, () -> all.motive(48, 12));
        CHECKS.illegalArgument("motive(49, 12)", () -> all.motive(49, 12));
        CHECKS.illegalArgument("motive(0, 13)", () -> all.motive(0, 13));
        CHECKS.due("12 notes", 12, () -> all.of(1));
    }

    private static void promise13Form() {
        FormFinds x = Rows.with(50, 9, 60, 1, 62, 2, 59, 3);
        CHECKS.illegalArgument("form without a motive", () -> x.form(0, 0, 0));
        x.motive(1, 3);
        CHECKS.same("as it is", "60/1 62/2 59/3 ", Rows.form(x, 0));
        CHECKS.same("turned", "60/1 58/2 61/3 ", Rows.form(x, 1));
        CHECKS.same("backwards", "59/3 62/2 60/1 ", Rows.form(x, 2));
        CHECKS.same("backwards and turned", "59/3 56/2 58/1 ", Rows.form(x, 3));
        for (int wrong : new int[] {LOW, -1, 4, HIGH}) {
            CHECKS.illegalArgument("form(" + wrong + ", 0, 0)", () -> x.form(wrong, 0, 0));
        }
        for (int wrong : new int[] {LOW, -1, 3, HIGH}) {
            CHECKS.illegalArgument("form(0, " + wrong + ", 0)", () -> x.form(0, wrong, 0));
        }
        for (int wrong : new int[] {LOW, -1, 2, HIGH}) {
            CHECKS.illegalArgument("form(0, 0, " + wrong + ")", () -> x.form(0, 0, wrong));
        }
        FormFinds y = Rows.pitches(0, 127);
        y.motive(0, 2);
        CHECKS.due("below 0", -127, () -> y.form(1, 1, 0));
        CHECKS.due("above 127", 254, () -> y.form(3, 1, 0));
    }

    private static void promise14Find() {
        // up 2 and 3 at two pitches, then turned at two
        FormFinds x = Rows.pitches(60, 62, 65, 60, 58, 55, 70, 72, 75, 73, 70);
        CHECKS.illegalState("find without a motive", () -> x.find(0, 1, 1));
        CHECKS.illegalArgument("wrong find without a motive", () -> x.find(4, 1, 1));
        x.motive(0, 3);
        CHECKS.due("as it is", 2, () -> x.find(0, 0, 0));
        CHECKS.same("as it is", "0 6 ", Rows.found(x));
        CHECKS.due("turned", 2, () -> x.find(1, 0, 0));
        CHECKS.same("turned", "3 8 ", Rows.found(x));
        CHECKS.due("backwards", 0, () -> x.find(2, 0, 0));
        x.note(67, 1);
        x.note(65, 1);
        CHECKS.due("backwards", 1, () -> x.find(2, 0, 0));
        CHECKS.same("backwards", "10 ", Rows.found(x));
        x.note(68, 1);
        x.note(70, 1);
        CHECKS.due("backwards and turned", 1, () -> x.find(3, 0, 0));
        CHECKS.same("backwards and turned", "12 ", Rows.found(x));
        for (int wrong : new int[] {LOW, -1, 4, HIGH}) {
            CHECKS.illegalArgument("find(" + wrong + ", 1, 1)", () -> x.find(wrong, 1, 1));
        }
        for (int wrong : new int[] {LOW, -1, 0, 10, HIGH}) {
            CHECKS.illegalArgument("find(0, " + wrong + ", 1)", () -> x.find(0, wrong, 1));
            CHECKS.illegalArgument("find(0, 1, " + wrong + ")", () -> x.find(0, 1, wrong));
        }
        CHECKS.illegalArgument("find(0, -1, -1)", () -> x.find(0, -1, -1));
        CHECKS.illegalArgument("find(0, 10, 10)", () -> x.find(0, 10, 10));
        CHECKS.due("the greatest", 2, () -> x.find(0, 9, 9));
        x.drop(13);
        CHECKS.due("with less notes than the motive", 0, () -> x.find(0, 0, 0));
        x.drop(2);
        CHECKS.due("with no notes", 0, () -> x.find(0, 0, 0));
    }

    private static void promise14FindInOtherLengths() {
        FormFinds x = Rows.with(60, 2, 62, 4, 70, 4, 72, 8, 50, 1, 52, 2, 40, 3, 42, 6, 30, 4, 32, 4);
        x.motive(0, 2);
        CHECKS.due("lengths do not count", 5, () -> x.find(0, 0, 0));
        CHECKS.due("same lengths", 1, () -> x.find(0, 1, 1));
        CHECKS.due("twice as long", 1, () -> x.find(0, 2, 1));
        CHECKS.same("twice as long", "2 ", Rows.found(x));
        CHECKS.due("half as long", 1, () -> x.find(0, 1, 2));
        CHECKS.same("half as long", "4 ", Rows.found(x));
        CHECKS.due("three halves as long", 1, () -> x.find(0, 3, 2));
        CHECKS.same("three halves as long", "6 ", Rows.found(x));
        CHECKS.due("six quarters as long", 1, () -> x.find(0, 6, 4));
        CHECKS.due("a third as long", 0, () -> x.find(0, 1, 3));
        FormFinds y = Rows.with(60, 1, 62, 3, 60, 3, 58, 1, 60, 3, 62, 1);
        y.motive(0, 2);
        CHECKS.due("backwards, its lengths too", 1, () -> y.find(2, 1, 1));
        CHECKS.same("backwards", "2 ", Rows.found(y));
        CHECKS.due("backwards and turned, its lengths too", 1, () -> y.find(3, 1, 1));
        CHECKS.same("backwards and turned", "4 ", Rows.found(y));
        FormFinds one = Rows.with(60, 2, 10, 2, 20, 3);
        one.motive(0, 1);
        CHECKS.due("one note, lengths do not count", 3, () -> one.find(3, 0, 0));
        CHECKS.due("one note and its length", 2, () -> one.find(1, 5, 5));
        CHECKS.due("one note in another length", 1, () -> one.find(0, 3, 2));
    }

    private static void promise15Answer() {
        FormFinds x = Rows.pitches(60, 67, 7, 64, 79);
        CHECKS.illegalArgument("answer without a motive", () -> x.answer(0, 0, 0));
        x.motive(0, 5);
        int[] allOfIt = {67, 72, 12, 71, 84};
        int[] headOfTwo = {67, 72, 14, 71, 86};
        for (int i = 0; i < 5; i++) {
            int n = i;
            CHECKS.due("answer(0, 12, " + n + ")", allOfIt[n], () -> x.answer(0, 12, n));
            CHECKS.due("answer(0, 2, " + n + ")", headOfTwo[n], () -> x.answer(0, 2, n));
            CHECKS.due("answer(0, 0, " + n + ")", x.form(0, n, 0) + 7, () -> x.answer(0, 0, n));
        }
        CHECKS.due("60 is 7 above 5", 65, () -> x.answer(5, 1, 0));
        CHECKS.due("7 is not 7 above 11", 14, () -> x.answer(11, 12, 2));
        for (int wrong : new int[] {LOW, -1, 12, HIGH}) {
            CHECKS.illegalArgument("answer(" + wrong + ", 0, 0)", () -> x.answer(wrong, 0, 0));
        }
        for (int wrong : new int[] {LOW, -1, 13, HIGH}) {
            CHECKS.illegalArgument("answer(0, " + wrong + ", 0)", () -> x.answer(0, wrong, 0));
        }
        for (int wrong : new int[] {LOW, -1, 5, HIGH}) {
            CHECKS.illegalArgument("answer(0, 0, " + wrong + ")", () -> x.answer(0, 0, wrong));
        }
        FormFinds low = Rows.pitches(6, 0, 127);
        low.motive(0, 3);
        CHECKS.due("6 is 7 above 11, modulo 12", 11, () -> low.answer(11, 1, 0));
        CHECKS.due("0 is 7 above 5, modulo 12", 5, () -> low.answer(5, 12, 1));
        CHECKS.due("above 127", 134, () -> low.answer(5, 0, 2));
    }

    private static void promise16Entries() {
        // c g e: the real answer g d b, the tonal one g c b
        FormFinds x = Rows.with(60, 4, 67, 4, 64, 4, 67, 1, 74, 2, 71, 3, 67, 5, 72, 6, 71, 7);
        CHECKS.illegalState("entries without a motive", () -> x.entries(0, 12));
        CHECKS.illegalArgument("wrong entries without a motive", () -> x.entries(12, 12));
        x.motive(0, 3);
        CHECKS.due("with a head", 1, () -> x.entries(0, 2));
        CHECKS.same("with a head", "6 ", Rows.found(x));
        CHECKS.due("with a head of all", 1, () -> x.entries(0, 12));
        CHECKS.due("head of one", 2, () -> x.entries(0, 1));
        CHECKS.same("head of one", "0 3 ", Rows.found(x));
        CHECKS.due("without a head", 2, () -> x.entries(0, 0));
        CHECKS.due("in another key", 2, () -> x.entries(1, 12));
        for (int wrong : new int[] {LOW, -1, 12, HIGH}) {
            CHECKS.illegalArgument("entries(" + wrong + ", 0)", () -> x.entries(wrong, 0));
        }
        for (int wrong : new int[] {LOW, -1, 13, HIGH}) {
            CHECKS.illegalArgument("entries(0, " + wrong + ")", () -> x.entries(0, wrong));
        }
        x.drop(7);
        CHECKS.due("with less notes", 0, () -> x.entries(0, 0));
    }

    private static void promise17Found() {
        FormFinds x = Rows.pitches(60, 62, 60, 62, 60);
        CHECKS.due("found(0) before any", -1, () -> x.found(0));
        x.motive(0, 2);
        x.find(0, 0, 0);
        CHECKS.due("found(0)", 0, () -> x.found(0));
        CHECKS.due("found(1)", 2, () -> x.found(1));
        CHECKS.due("found(2)", -1, () -> x.found(2));
        CHECKS.due("found(60)", -1, () -> x.found(60));
        CHECKS.due("found(HIGH)", -1, () -> x.found(HIGH));
        CHECKS.illegalArgument("found(-1)", () -> x.found(-1));
        CHECKS.illegalArgument("found(LOW)", () -> x.found(LOW));
        x.find(1, 0, 0);
        CHECKS.same("of the last find", "1 3 ", Rows.found(x));
        x.entries(0, 0);
        CHECKS.same("of the last entries", "0 2 ", Rows.found(x));
        FormFinds all = Rows.full();
        all.motive(0, 1);
        all.find(0, 0, 0);
        CHECKS.due("the 60th", 59, () -> all.found(59));
        CHECKS.due("behind the 60th", -1, () -> all.found(60));
    }

    private static void promise18Sections() {
        FormFinds x = Rows.pitches(60, 62, 80, 82, 61);
        CHECKS.due("two jumps dearer than sections", 3, () -> x.sections(5, 1));
        CHECKS.same("they", "0 2 4 cost 19", Rows.sections(x));
        CHECKS.due("dear sections", 1, () -> x.sections(1000, 1));
        CHECKS.same("it", "0 cost 1022", Rows.sections(x));
        CHECKS.due("sections for nothing", 5, () -> x.sections(0, 1));
        CHECKS.same("they", "0 1 2 3 4 cost 0", Rows.sections(x));
        CHECKS.due("heights for nothing", 1, () -> x.sections(7, 0));
        CHECKS.same("it", "0 cost 7", Rows.sections(x));
        CHECKS.due("all for nothing", 1, () -> x.sections(0, 0));
        CHECKS.same("it", "0 cost 0", Rows.sections(x));
        CHECKS.due("the dearest", 1, () -> x.sections(1000, 100));
        CHECKS.same("it", "0 cost 3200", Rows.sections(x));
        for (int wrong : new int[] {LOW, -1, 1001, HIGH}) {
            CHECKS.illegalArgument("sections(" + wrong + ", 1)", () -> x.sections(wrong, 1));
        }
        for (int wrong : new int[] {LOW, -1, 101, HIGH}) {
            CHECKS.illegalArgument("sections(1, " + wrong + ")", () -> x.sections(1, wrong));
        }
        FormFinds none = new FormFinds();
        CHECKS.due("without notes", 0, () -> none.sections(1000, 100));
        CHECKS.same("none", "cost 0", Rows.sections(none));
    }

    /**
     * Of the same least cost the fewest. (Those are never two: two ways to part alike in cost can be joined
     * to one that costs no more and has fewer sections, so no test can tell which second begins first.)
     */
    private static void promise18SectionsAlikeInCost() {
        FormFinds x = Rows.pitches(60, 61, 62);
        x.sections(1, 1);
        CHECKS.same("one, two or three cost 3", "0 cost 3", Rows.sections(x));
        FormFinds y = Rows.pitches(0, 10, 20, 100, 110);
        y.sections(10, 1);
        CHECKS.same("two to five cost 50", "0 3 cost 50", Rows.sections(y));
        FormFinds z = Rows.pitches(0, 40, 40, 80);
        z.sections(10, 1);
        CHECKS.same("those of one pitch together", "0 1 3 cost 30", Rows.sections(z));
        FormFinds w = Rows.pitches(5, 5, 5, 6);
        w.sections(0, 1);
        CHECKS.same("sections for nothing, but the fewest", "0 3 cost 0", Rows.sections(w));
    }

    private static void promise19Section() {
        FormFinds x = Rows.pitches(60, 62, 80, 82, 61);
        CHECKS.due("section(0) before any", -1, () -> x.section(0));
        x.sections(5, 1);
        CHECKS.due("section(0)", 0, () -> x.section(0));
        CHECKS.due("section(1)", 2, () -> x.section(1));
        CHECKS.due("section(2)", 4, () -> x.section(2));
        CHECKS.due("section(3)", -1, () -> x.section(3));
        CHECKS.due("section(60)", -1, () -> x.section(60));
        CHECKS.due("section(HIGH)", -1, () -> x.section(HIGH));
        CHECKS.illegalArgument("section(-1)", () -> x.section(-1));
        CHECKS.illegalArgument("section(LOW)", () -> x.section(LOW));
        x.sections(1000, 1);
        CHECKS.due("section(1) of one", -1, () -> x.section(1));
        FormFinds many = new FormFinds();
        for (int i = 0; i < 60; i++) {
            many.note(i % 2 == 0 ? 0 : 127, 1);
        }
        CHECKS.due("60 sections", 60, () -> many.sections(0, 100));
        CHECKS.due("the last of them", 59, () -> many.section(59));
        CHECKS.due("none behind it", -1, () -> many.section(60));
    }

    private static void promise20Of() {
        FormFinds x = Rows.pitches(60, 62, 60, 62, 60);
        x.motive(1, 2);
        x.sections(3, 2);
        x.entries(0, 0);
        x.repeats(0, 1);
        int[] want = {5, 2, 7, 2, 2};
        for (int what = 0; what <= 4; what++) {
            int w = what;
            CHECKS.due("of(" + w + ")", want[w], () -> x.of(w));
        }
        x.find(0, 9, 1);
        CHECKS.due("none found", 0, () -> x.of(3));
        for (int wrong : new int[] {LOW, -1, 5, HIGH}) {
            CHECKS.illegalArgument("of(" + wrong + ")", () -> x.of(wrong));
        }
    }

    /** What was found last stays until it is looked for again, though notes come and go. */
    private static void whatWasFoundStays() {
        FormFinds x = Rows.pitches(60, 62, 60, 62, 60);
        x.motive(0, 2);
        x.find(0, 0, 0);
        x.repeats(0, 1);
        x.sections(1, 1);
        String before = Rows.results(x);
        x.drop(5);
        CHECKS.same("behind drop", before, Rows.results(x));
        x.note(1, 1);
        CHECKS.same("behind note", before, Rows.results(x));
        x.motive(0, 1);
        CHECKS.same("behind motive", before, Rows.results(x));
        x.passages(0, 1);
        x.period(0);
        x.alike(0, 0, 0, 1);
        x.form(3, 0, 0);
        x.answer(0, 0, 0);
        CHECKS.same("behind what only asks", before, Rows.results(x));
        CHECKS.same("the sections among it", "0 cost 3", Rows.sections(x));
    }

    private static void throwingChangesNothing() {
        FormFinds x = Rows.pitches(60, 62, 60, 62, 60);
        x.motive(0, 2);
        x.find(0, 0, 0);
        x.repeats(0, 1);
        x.sections(1, 1);
        String before = Rows.results(x) + Rows.items(x, 4) + Rows.form(x, 0);
        CHECKS.illegalArgument("note", () -> x.note(-1, 1));
        CHECKS.illegalArgument("drop", () -> x.drop(6));
        CHECKS.illegalArgument("item", () -> x.item(0, 5));
        CHECKS.illegalArgument("repeats", () -> x.repeats(1, 0));
        CHECKS.illegalArgument("repeat", () -> x.repeat(2, 0));
        CHECKS.illegalArgument("passages", () -> x.passages(1, 0));
        CHECKS.illegalArgument("alike", () -> x.alike(1, 0, 0, 5));
        CHECKS.arithmetic("alike", () -> x.alike(1, 0, 0, 0));
        CHECKS.illegalArgument("motive", () -> x.motive(4, 2));
        CHECKS.illegalArgument("find", () -> x.find(1, 0, 1));
        CHECKS.illegalArgument("entries", () -> x.entries(0, 13));
        CHECKS.illegalArgument("sections", () -> x.sections(0, 101));
        CHECKS.same("behind throws", before, Rows.results(x) + Rows.items(x, 4) + Rows.form(x, 0));
        FormFinds noMotive = Rows.pitches(60, 62);
        CHECKS.illegalState("find", () -> noMotive.find(0, 0, 0));
        CHECKS.illegalState("entries", () -> noMotive.entries(0, 0));
        CHECKS.due("found behind them", 0, () -> noMotive.of(3));
        FormFinds all = Rows.full();
        CHECKS.illegalState("note", () -> all.note(1, 1));
        CHECKS.due("the last of 60", 64, () -> all.item(0, 59));
    }
}
