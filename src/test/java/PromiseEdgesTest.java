/** The boundary cases that the promises 1 to 20 of the document name, a test for each sentence. */
final class PromiseEdgesTest {
    private static final int LOW = Rows.LOW;
    private static final int HIGH = Rows.HIGH;
    private static final Checks CHECKS = new Checks();

    public static void main(String[] args) {
        newHasNoNotes();
        newHasNoMotive();
        newHasNothingFound();
        clearMakesAllAsAtFirst();
        clearTellsHowMany();
        noteTellsItsNumber();
        noteRefused();
        noteBehind60();
        dropTakesTheLast();
        dropOfTooMany();
        itemsOfEachView();
        itemsOfNoView();
        itemOfPitchAndLength();
        itemRefused();
        repeatsOfALeast();
        repeatsRefused();
        repeatOfThoseFoundLast();
        repeatOfVeryMany();
        repeatRefused();
        passagesOfM();
        passagesRefused();
        periodIsLeast();
        periodIfThereIsOne();
        periodWithoutItems();
        periodRefused();
        alikeCut();
        alikeRefused();
        alikeOfNone();
        motiveTellsThePitch();
        motiveRefused();
        formAsItComes();
        formRefused();
        findUpAndDown();
        findLengthsDoNotCount();
        findRefused();
        findWithoutAMotive();
        answerOfANote();
        answerRefused();
        entriesTellHowMany();
        entriesRefused();
        entriesWithoutAMotive();
        foundOfTheLast();
        foundNone();
        foundRefused();
        sectionsByBaseAndBy();
        sectionsRefused();
        sectionOfThoseMadeLast();
        sectionNone();
        sectionRefused();
        ofEach();
        ofRefused();
        CHECKS.finish();
    }

    /** Five notes with a motive, repeats, places and sections. */
    private static FormFinds busy() {
        FormFinds x = Rows.pitches(60, 62, 60, 62, 60);
        x.motive(0, 2);
        x.find(0, 0, 0);
        x.repeats(0, 1);
        x.sections(1, 1);
        return x;
    }

    private static void hasNoNotes(FormFinds x) {
        CHECKS.due("notes", 0, () -> x.of(0));
        for (int view = 0; view < Rows.VIEWS; view++) {
            int v = view;
            CHECKS.due("items of view " + v, 0, () -> x.items(v));
            CHECKS.illegalArgument("item of view " + v, () -> x.item(v, 0));
        }
        CHECKS.illegalArgument("drop(1)", () -> x.drop(1));
        CHECKS.illegalArgument("motive(0, 1)", () -> x.motive(0, 1));
    }

    private static void hasNoMotive(FormFinds x) {
        CHECKS.due("notes of the motive", 0, () -> x.of(1));
        CHECKS.illegalArgument("form", () -> x.form(0, 0, 0));
        CHECKS.illegalArgument("answer", () -> x.answer(0, 0, 0));
        CHECKS.illegalState("find", () -> x.find(0, 0, 0));
        CHECKS.illegalState("entries", () -> x.entries(0, 0));
    }

    private static void hasNothingFound(FormFinds x) {
        CHECKS.due("cost", 0, () -> x.of(2));
        CHECKS.due("places", 0, () -> x.of(3));
        CHECKS.due("repeats", 0, () -> x.of(4));
        CHECKS.illegalArgument("repeat", () -> x.repeat(0, 0));
        CHECKS.due("place", FormFinds.NONE, () -> x.found(0));
        CHECKS.due("section", FormFinds.NONE, () -> x.section(0));
    }

    private static void newHasNoNotes() {
        CHECKS.sentence("Promise 1: No NOTES");
        hasNoNotes(new FormFinds());
        CHECKS.due("the first note", 0, () -> new FormFinds().note(1, 1));
        FormFinds other = Rows.full();
        hasNoNotes(new FormFinds());
        CHECKS.due("the other object's notes", 60, () -> other.of(0));
    }

    private static void newHasNoMotive() {
        CHECKS.sentence("Promise 1: no MOTIVE");
        hasNoMotive(new FormFinds());
        hasNoMotive(Rows.full());
    }

    private static void newHasNothingFound() {
        CHECKS.sentence("Promise 1: nothing is FOUND, parted");
        hasNothingFound(new FormFinds());
        FormFinds x = Rows.full();
        x.motive(0, 1);
        hasNothingFound(x);
    }

    private static void clearMakesAllAsAtFirst() {
        CHECKS.sentence("Promise 2: All as at first");
        FormFinds x = busy();
        x.clear();
        hasNoNotes(x);
        hasNoMotive(x);
        hasNothingFound(x);
        CHECKS.due("the first note", 0, () -> x.note(1, 1));
        hasNoMotive(x);
        hasNothingFound(x);
        FormFinds byEntries = busy();
        byEntries.entries(0, 0);
        byEntries.drop(5);
        byEntries.clear();
        hasNoMotive(byEntries);
        hasNothingFound(byEntries);
        FormFinds full = Rows.full();
        full.clear();
        for (int i = 0; i < 60; i++) {
            int number = i;
            CHECKS.due("note " + number + " behind clear() of 60", number, () -> full.note(1, 1));
        }
        CHECKS.illegalState("note 60", () -> full.note(1, 1));
    }

    private static void clearTellsHowMany() {
        CHECKS.sentence("Promise 2: how many NOTES there were");
        CHECKS.due("none", 0, () -> new FormFinds().clear());
        CHECKS.due("one", 1, () -> Rows.alike(1).clear());
        FormFinds x = Rows.full();
        CHECKS.due("60", 60, x::clear);
        CHECKS.due("none any more", 0, x::clear);
        FormFinds dropped = Rows.full();
        dropped.drop(59);
        CHECKS.due("those that drop left", 1, dropped::clear);
    }

    private static void noteTellsItsNumber() {
        CHECKS.sentence("Promise 3: A NOTE more: its number");
        FormFinds x = new FormFinds();
        CHECKS.due("the first", 0, () -> x.note(0, 1));
        CHECKS.due("the second", 1, () -> x.note(127, 999));
        FormFinds y = Rows.alike(59);
        CHECKS.due("the last", 59, () -> y.note(127, 999));
        CHECKS.due("it stands there", 127999, () -> y.item(4, 59));
        y.drop(1);
        CHECKS.due("the last again", 59, () -> y.note(0, 1));
        CHECKS.due("the other one stands there", 1, () -> y.item(4, 59));
    }

    private static void noteRefused() {
        CHECKS.sentence("Promise 3: IllegalArgument");
        FormFinds x = new FormFinds();
        CHECKS.refuses("pitch", p -> x.note(p, 1), LOW, -1, 128, HIGH);
        CHECKS.refuses("length", l -> x.note(1, l), LOW, -1, 0, 1000, HIGH);
        CHECKS.illegalArgument("both", () -> x.note(-1, 0));
        CHECKS.due("no note came", 0, () -> x.of(0));
    }

    private static void noteBehind60() {
        CHECKS.sentence("Promise 3: IllegalState: there are 60");
        FormFinds x = Rows.alike(59);
        CHECKS.due("59 are not 60", 59, () -> x.note(1, 1));
        CHECKS.illegalState("60", () -> x.note(1, 1));
        CHECKS.illegalState("still 60", () -> x.note(127, 999));
        CHECKS.illegalArgument("60 and no pitch", () -> x.note(128, 1));
        CHECKS.illegalArgument("60 and no length", () -> x.note(1, 1000));
        x.drop(0);
        CHECKS.illegalState("60 behind drop(0)", () -> x.note(1, 1));
        CHECKS.due("60 remain", 60, () -> x.of(0));
        x.drop(1);
        CHECKS.due("one less", 59, () -> x.note(1, 1));
    }

    private static void dropTakesTheLast() {
        CHECKS.sentence("Promise 4: The last n NOTES go: how many are left");
        FormFinds x = Rows.with(1, 1, 2, 2, 3, 3);
        CHECKS.due("none goes", 3, () -> x.drop(0));
        CHECKS.due("one goes", 2, () -> x.drop(1));
        CHECKS.same("the first ones are left", "1001 2002 ", Rows.items(x, 4));
        CHECKS.due("all go", 0, () -> x.drop(2));
        CHECKS.due("none of none goes", 0, () -> x.drop(0));
        CHECKS.due("all of 60 go", 0, () -> Rows.full().drop(60));
        CHECKS.due("59 of 60 go", 1, () -> Rows.full().drop(59));
    }

    private static void dropOfTooMany() {
        CHECKS.sentence("Promise 4: IllegalArgument: there are not so many");
        CHECKS.refuses("of none", n -> new FormFinds().drop(n), LOW, -1, 1, 60, HIGH);
        FormFinds x = Rows.alike(3);
        CHECKS.refuses("of three", n -> x.drop(n), LOW, LOW + 1, -3, -1, 4, 60, HIGH - 1, HIGH);
        CHECKS.due("three are left", 3, () -> x.of(0));
        CHECKS.refuses("of 60", n -> Rows.full().drop(n), -1, 61);
    }

    private static void itemsOfEachView() {
        CHECKS.sentence("Promise 5: How many ITEMS a VIEW has");
        for (int notes : new int[] {0, 1, 2, 59, 60}) {
            FormFinds x = Rows.alike(notes);
            int between = Math.max(notes - 1, 0);
            int[] want = {notes, between, between, notes, notes};
            for (int view = 0; view < Rows.VIEWS; view++) {
                int v = view;
                CHECKS.due("view " + v + " of " + notes, want[v], () -> x.items(v));
            }
        }
        FormFinds y = Rows.full();
        y.drop(60);
        CHECKS.due("steps behind drop of all", 0, () -> y.items(1));
        CHECKS.due("turns behind drop of all", 0, () -> y.items(2));
    }

    private static void itemsOfNoView() {
        CHECKS.sentence("Promise 5: IllegalArgument");
        CHECKS.refuses("view", v -> Rows.alike(3).items(v), LOW, -1, 5, HIGH);
        CHECKS.refuses("view of none", v -> new FormFinds().items(v), LOW, -1, 5, HIGH);
    }

    private static void itemOfPitchAndLength() {
        CHECKS.sentence("Promise 6: ITEM i of a VIEW (of 4 the PITCH times 1000 and the LENGTH)");
        CHECKS.same("the least and the greatest", "1 999 127001 127999 ",
            Rows.items(Rows.with(0, 1, 0, 999, 127, 1, 127, 999), 4));
    }

    private static void itemRefused() {
        CHECKS.sentence("Promise 6: IllegalArgument");
        FormFinds x = Rows.alike(3);
        CHECKS.refuses("view", v -> x.item(v, 0), LOW, -1, 5, HIGH);
        for (int view = 0; view < Rows.VIEWS; view++) {
            int v = view;
            int count = x.items(v);
            CHECKS.due("the last of view " + v, v == 3 ? 1 : v == 0 ? 64 : v == 4 ? 64001 : 0,
                () -> x.item(v, count - 1));
            CHECKS.refuses("item of view " + v, i -> x.item(v, i), LOW, -1, count, count + 1, 60, HIGH);
            CHECKS.refuses("item of none, view " + v, i -> new FormFinds().item(v, i), -1, 0);
        }
        FormFinds dropped = Rows.alike(3);
        dropped.drop(1);
        CHECKS.illegalArgument("a pitch that went", () -> dropped.item(0, 2));
        CHECKS.illegalArgument("a step that went", () -> dropped.item(1, 1));
    }

    private static void repeatsOfALeast() {
        CHECKS.sentence("Promise 7: The REPEATS of a VIEW with m of a least one (1 .. 60) and more are found: "
            + "how many");
        FormFinds x = Rows.full();
        CHECKS.due("1 and more", 59, () -> x.repeats(0, 1));
        CHECKS.due("2 and more", 58, () -> x.repeats(0, 2));
        CHECKS.due("58 and more", 2, () -> x.repeats(0, 58));
        CHECKS.due("59 and more", 1, () -> x.repeats(0, 59));
        CHECKS.due("that has 59", 59, () -> x.repeat(0, 2));
        CHECKS.due("58 and more steps", 1, () -> x.repeats(1, 58));
        CHECKS.due("59 and more steps", 0, () -> x.repeats(1, 59));
        CHECKS.due("60", 0, () -> x.repeats(0, 60));
        CHECKS.due("none found any more", 0, () -> x.of(4));
        CHECKS.due("of none", 0, () -> new FormFinds().repeats(4, 1));
        CHECKS.due("of one", 0, () -> Rows.alike(1).repeats(3, 1));
        CHECKS.due("of a step of two", 0, () -> Rows.alike(2).repeats(1, 1));
        CHECKS.due("of two", 1, () -> Rows.alike(2).repeats(0, 1));
        CHECKS.due("of two, 2 and more", 0, () -> Rows.alike(2).repeats(0, 2));
        FormFinds dropped = busy();
        dropped.drop(5);
        CHECKS.due("of none behind drop", 0, () -> dropped.repeats(0, 1));
        CHECKS.illegalArgument("none to be told", () -> dropped.repeat(0, 0));
    }

    private static void repeatsRefused() {
        CHECKS.sentence("Promise 7: IllegalArgument");
        CHECKS.refuses("view", v -> Rows.alike(3).repeats(v, 1), LOW, -1, 5, HIGH);
        CHECKS.refuses("least", l -> Rows.alike(3).repeats(0, l), LOW, -1, 0, 61, HIGH);
        CHECKS.refuses("view of none", v -> new FormFinds().repeats(v, 1), -1, 5);
        CHECKS.refuses("least of none", l -> new FormFinds().repeats(0, l), 0, 61);
    }

    private static void repeatOfThoseFoundLast() {
        CHECKS.sentence("Promise 8: REPEAT k, from 0, of those that repeats() found last: what = 0 i, 1 j, 2 m");
        FormFinds x = Rows.letters("abcabdab");
        x.repeats(0, 1);
        CHECKS.same("the pitches' ones", "(0,3,2)(0,6,2)(3,6,2)", Rows.repeats(x));
        x.repeats(0, 3);
        CHECKS.same("none, of 3 and more", "", Rows.repeats(x));
        x.repeats(3, 7);
        CHECKS.same("the lengths' one", "(0,1,7)", Rows.repeats(x));
        x.drop(8);
        CHECKS.same("still that one", "(0,1,7)", Rows.repeats(x));
        FormFinds full = Rows.full();
        full.repeats(0, 1);
        CHECKS.due("i of the last", 0, () -> full.repeat(58, 0));
        CHECKS.due("j of the last", 59, () -> full.repeat(58, 1));
        CHECKS.due("m of the last", 1, () -> full.repeat(58, 2));
    }

    /** A row with more repeats than any other that was come upon; no object is asked more than 512 times. */
    private static void repeatOfVeryMany() {
        CHECKS.sentence("Promise 8: REPEAT k, from 0, of those that repeats() found last (very many)");
        String row = "cccbcdcccbcccccacdcacdcccdcbccbcccccdcccbccccacdcccacccacacc";
        SlowForms slow = new SlowForms();
        for (char letter : row.toCharArray()) {
            slow.note(letter - 'a', 1);
        }
        slow.repeats(0, 1);
        int count = 563;
        for (int from = 0; from < count; from += 100) {
            FormFinds x = Rows.letters(row);
            CHECKS.due("repeats", count, () -> x.repeats(0, 1));
            for (int k = from; k < Math.min(from + 100, count); k++) {
                for (int what = 0; what <= 2; what++) {
                    int n = k;
                    int w = what;
                    CHECKS.due("repeat(" + n + ", " + w + ")", slow.repeat(n, w), () -> x.repeat(n, w));
                }
            }
            CHECKS.refuses("repeat", k -> x.repeat(k, 0), -1, count);
        }
    }

    private static void repeatRefused() {
        CHECKS.sentence("Promise 8: IllegalArgument: also none such");
        FormFinds x = busy();
        CHECKS.refuses("repeat k", k -> x.repeat(k, 0), LOW, -1, 2, 3, 900, HIGH);
        CHECKS.refuses("what", w -> x.repeat(0, w), LOW, -1, 3, HIGH);
        CHECKS.refuses("what of the last", w -> x.repeat(1, w), -1, 3);
        CHECKS.illegalArgument("before repeats()", () -> Rows.alike(3).repeat(0, 0));
        x.repeats(0, 60);
        CHECKS.illegalArgument("none found", () -> x.repeat(0, 0));
        FormFinds cleared = busy();
        cleared.clear();
        CHECKS.illegalArgument("behind clear()", () -> cleared.repeat(0, 0));
        FormFinds times = busy();
        CHECKS.refuses("k that wraps around to 0 if taken 3 times", k -> times.repeat(k, 0), 1431655766, -1431655765);
    }

    private static void passagesOfM() {
        CHECKS.sentence("Promise 9: How many different rows of m ITEMS, m 1 .. 60, one behind the other, a VIEW has");
        FormFinds all = new FormFinds();
        for (int i = 0; i < 60; i++) {
            all.note(i, 1);
        }
        CHECKS.due("1 of 60 different", 60, () -> all.passages(0, 1));
        CHECKS.due("59 of 60 different", 2, () -> all.passages(0, 59));
        CHECKS.due("60 of 60", 1, () -> all.passages(0, 60));
        CHECKS.due("60 of 59 steps", 0, () -> all.passages(1, 60));
        CHECKS.due("59 of 59 steps", 1, () -> all.passages(1, 59));
        CHECKS.due("1 of 59 steps alike", 1, () -> all.passages(1, 1));
        CHECKS.due("58 of 60 lengths alike", 1, () -> all.passages(3, 58));
        CHECKS.due("of none", 0, () -> new FormFinds().passages(0, 1));
        CHECKS.due("steps of one", 0, () -> Rows.alike(1).passages(1, 1));
        CHECKS.due("of one", 1, () -> Rows.alike(1).passages(0, 1));
        CHECKS.due("2 of one", 0, () -> Rows.alike(1).passages(0, 2));
        CHECKS.due("1 of six, two of them again", 4, () -> Rows.letters("abcabd").passages(0, 1));
        CHECKS.due("rows of 3 different in the last alone", 4, () -> Rows.letters("abcabd").passages(0, 3));
        CHECKS.due("rows of 2 over one another", 1, () -> Rows.letters("aaa").passages(0, 2));
    }

    private static void passagesRefused() {
        CHECKS.sentence("Promise 9: IllegalArgument");
        CHECKS.refuses("view", v -> Rows.alike(3).passages(v, 1), LOW, -1, 5, HIGH);
        CHECKS.refuses("m", m -> Rows.alike(3).passages(0, m), LOW, -1, 0, 61, HIGH);
        CHECKS.refuses("m of none", m -> new FormFinds().passages(0, m), 0, 61);
    }

    private static void periodIsLeast() {
        CHECKS.sentence("Promise 10: The least number p, 1 or more, so that each ITEM of a VIEW is the one p "
            + "places behind it");
        CHECKS.due("one again and again", 1, () -> Rows.full().period(0));
        CHECKS.due("two by turns", 2, () -> Rows.zigzag().period(0));
        CHECKS.due("its steps", 2, () -> Rows.zigzag().period(1));
        CHECKS.due("2, though 4 is one too", 2, () -> Rows.letters("abababab").period(0));
        CHECKS.due("3, the last one cut", 3, () -> Rows.letters("abcabca").period(0));
        CHECKS.due("4, though 1 begins so", 4, () -> Rows.letters("aaabaaa").period(0));
        CHECKS.due("the first is not the second", 4, () -> Rows.letters("baaab").period(0));
    }

    private static void periodIfThereIsOne() {
        CHECKS.sentence("Promise 10: if there is one");
        CHECKS.due("one item has none behind it", 1, () -> Rows.alike(1).period(0));
        CHECKS.due("one step has none behind it", 1, () -> Rows.alike(2).period(1));
        CHECKS.due("two different", 2, () -> Rows.letters("ab").period(0));
        CHECKS.due("the last one alone is different", 4, () -> Rows.letters("aaab").period(0));
        CHECKS.due("the last one is the first", 3, () -> Rows.letters("abca").period(0));
        FormFinds all = new FormFinds();
        for (int i = 0; i < 60; i++) {
            all.note(i, i + 1);
        }
        CHECKS.due("60 different", 60, () -> all.period(4));
    }

    private static void periodWithoutItems() {
        CHECKS.sentence("Promise 10: 0 without ITEMS");
        for (int view = 0; view < Rows.VIEWS; view++) {
            int v = view;
            CHECKS.due("view " + v, 0, () -> new FormFinds().period(v));
        }
        CHECKS.due("steps of one", 0, () -> Rows.alike(1).period(1));
        CHECKS.due("turns of one", 0, () -> Rows.alike(1).period(2));
        FormFinds dropped = Rows.alike(5);
        dropped.period(0);
        dropped.drop(5);
        CHECKS.due("behind drop of all", 0, () -> dropped.period(0));
    }

    private static void periodRefused() {
        CHECKS.sentence("Promise 10: IllegalArgument");
        CHECKS.refuses("view", v -> Rows.alike(3).period(v), LOW, -1, 5, HIGH);
        CHECKS.refuses("view of none", v -> new FormFinds().period(v), -1, 5);
    }

    private static void alikeCut() {
        CHECKS.sentence("Promise 11: 100 times as many .. divided by m, cut");
        FormFinds x = Rows.letters("abcadeafcabc");
        CHECKS.due("1 of 3", 33, () -> x.alike(0, 0, 3, 3));
        CHECKS.due("2 of 3", 66, () -> x.alike(0, 0, 6, 3));
        CHECKS.due("3 of 3", 100, () -> x.alike(0, 0, 9, 3));
        CHECKS.due("0 of 3", 0, () -> x.alike(0, 0, 1, 3));
        CHECKS.due("5 of 6", 83, () -> Rows.letters("aaaaaaaaaaab").alike(0, 0, 6, 6));
        CHECKS.due("all of them with themselves", 100, () -> x.alike(0, 0, 0, 12));
        CHECKS.due("the last one with the first", 0, () -> x.alike(0, 11, 0, 1));
        CHECKS.due("60 of 60", 100, () -> Rows.full().alike(0, 0, 0, 60));
        FormFinds but1 = Rows.alike(59);
        but1.note(1, 1);
        CHECKS.due("58 of 59", 98, () -> but1.alike(0, 0, 1, 59));
        FormFinds just1 = new FormFinds();
        for (int i = 0; i < 60; i++) {
            just1.note(Math.min(i, 58), 1);
        }
        CHECKS.due("1 of 59", 1, () -> just1.alike(0, 0, 1, 59));
    }

    private static void alikeRefused() {
        CHECKS.sentence("Promise 11: IllegalArgument: m below 0, or there are not m ITEMS from i, j on");
        FormFinds x = Rows.alike(6);
        CHECKS.refuses("m", m -> x.alike(0, 0, 0, m), LOW, -1, 7, HIGH);
        CHECKS.refuses("m of steps", m -> x.alike(1, 0, 0, m), LOW, -1, 6, HIGH);
        CHECKS.due("m just so many", 100, () -> x.alike(0, 0, 0, 6));
        CHECKS.due("m just so many steps", 100, () -> x.alike(1, 0, 0, 5));
        CHECKS.due("from i just so many", 100, () -> x.alike(0, 2, 0, 4));
        CHECKS.due("from j just so many", 100, () -> x.alike(0, 0, 2, 4));
        CHECKS.refuses("from i", i -> x.alike(0, i, 0, 4), LOW, -4, -1, 3, 6, HIGH - 3, HIGH);
        CHECKS.refuses("from j", j -> x.alike(0, 0, j, 4), LOW, -4, -1, 3, 6, HIGH - 3, HIGH);
        CHECKS.refuses("i and m that wrap around", i -> x.alike(0, i, 0, HIGH), 1, 2, 6, HIGH);
        CHECKS.refuses("j and m that wrap around", j -> x.alike(0, 0, j, HIGH), 1, 2, 6, HIGH);
        CHECKS.refuses("i and j, m below 0", i -> x.alike(0, i, i, -1), -1, 1, 7, HIGH);
        CHECKS.refuses("view", v -> x.alike(v, 0, 0, 1), LOW, -1, 5, HIGH);
        CHECKS.illegalArgument("one of none", () -> new FormFinds().alike(0, 0, 0, 1));
    }

    private static void alikeOfNone() {
        CHECKS.sentence("Promise 11: Arithmetic: m is 0");
        FormFinds x = Rows.alike(6);
        CHECKS.arithmetic("at the first place", () -> x.alike(0, 0, 0, 0));
        CHECKS.arithmetic("at the last place", () -> x.alike(0, 5, 5, 0));
        CHECKS.arithmetic("behind the last item are 0 items", () -> x.alike(0, 6, 6, 0));
        CHECKS.arithmetic("behind the last step are 0 steps", () -> x.alike(1, 5, 5, 0));
        CHECKS.arithmetic("none of none", () -> new FormFinds().alike(4, 0, 0, 0));
        CHECKS.refuses("no place i", i -> x.alike(0, i, 0, 0), LOW, -1, 7, HIGH);
        CHECKS.refuses("no place j", j -> x.alike(0, 0, j, 0), LOW, -1, 7, HIGH);
        CHECKS.refuses("no place of a step", i -> x.alike(1, i, 0, 0), -1, 6);
        CHECKS.refuses("no view", v -> x.alike(v, 0, 0, 0), LOW, -1, 5, HIGH);
    }

    private static void motiveTellsThePitch() {
        CHECKS.sentence("Promise 12: THE MOTIVE is n NOTES (1 .. 12) from a place on: the PITCH of the first one");
        FormFinds x = new FormFinds();
        for (int i = 0; i < 60; i++) {
            x.note(2 * i, 1);
        }
        CHECKS.due("1 from the first on", 0, () -> x.motive(0, 1));
        CHECKS.due("12 from the first on", 0, () -> x.motive(0, 12));
        CHECKS.due("12 from the last place that has so many", 96, () -> x.motive(48, 12));
        CHECKS.due("the last of them", 118, () -> x.form(0, 11, 0));
        CHECKS.due("1 from the last on", 118, () -> x.motive(59, 1));
        CHECKS.due("it has one note", 1, () -> x.of(1));
        CHECKS.due("a motive of the only note", 64, () -> Rows.alike(1).motive(0, 1));
        CHECKS.due("the lowest pitch", 0, () -> Rows.pitches(0).motive(0, 1));
        CHECKS.due("the highest pitch", 127, () -> Rows.pitches(127).motive(0, 1));
    }

    private static void motiveRefused() {
        CHECKS.sentence("Promise 12: IllegalArgument: also there are not so many");
        FormFinds x = Rows.full();
        x.motive(5, 5);
        CHECKS.refuses("n", n -> x.motive(0, n), LOW, -1, 0, 13, 60, 61, HIGH);
        CHECKS.refuses("from", from -> x.motive(from, 1), LOW, -1, 60, 61, HIGH);
        CHECKS.refuses("12 from", from -> x.motive(from, 12), LOW, -12, -1, 49, 59, 60, HIGH - 11, HIGH);
        CHECKS.refuses("n from the last on", n -> x.motive(59, n), 0, 2, 12);
        CHECKS.due("the motive remains", 5, () -> x.of(1));
        CHECKS.refuses("n of three", n -> Rows.alike(3).motive(0, n), 0, 4, 12);
        CHECKS.refuses("n of none", n -> new FormFinds().motive(0, n), 0, 1, 12);
        FormFinds dropped = Rows.alike(3);
        dropped.drop(1);
        CHECKS.illegalArgument("a note that went", () -> dropped.motive(2, 1));
    }

    private static void formAsItComes() {
        CHECKS.sentence("Promise 13: its PITCH (as it comes, perhaps below 0 or above 127)");
        FormFinds x = Rows.with(0, 1, 127, 999, 127, 5, 0, 9);
        x.motive(0, 2);
        CHECKS.same("below 0", "0/1 -127/999 ", Rows.form(x, 1));
        CHECKS.same("above 127", "127/999 254/1 ", Rows.form(x, 3));
        x.motive(2, 2);
        CHECKS.same("above 127", "127/5 254/9 ", Rows.form(x, 1));
        CHECKS.same("below 0", "0/9 -127/5 ", Rows.form(x, 3));
        FormFinds just = Rows.pitches(63, 127, 64, 0);
        just.motive(0, 2);
        CHECKS.due("just below 0", -1, () -> just.form(1, 1, 0));
        just.motive(2, 2);
        CHECKS.due("just above 127", 128, () -> just.form(1, 1, 0));
        CHECKS.due("found by its steps all the same", 1, () -> just.find(1, 0, 0));
    }

    private static void formRefused() {
        CHECKS.sentence("Promise 13: IllegalArgument: also no such NOTE, none without a MOTIVE");
        FormFinds x = Rows.full();
        for (int form = 0; form < Rows.FORMS; form++) {
            int f = form;
            CHECKS.illegalArgument("without a motive, form " + f, () -> x.form(f, 0, 0));
            CHECKS.illegalArgument("no length without a motive, form " + f, () -> x.form(f, 0, 1));
        }
        x.motive(0, 3);
        CHECKS.due("the last note", 64, () -> x.form(2, 2, 0));
        for (int form = 0; form < Rows.FORMS; form++) {
            int f = form;
            CHECKS.refuses("note of form " + f, i -> x.form(f, i, 0), LOW, -1, 3, 12, HIGH);
            CHECKS.refuses("length of form " + f, i -> x.form(f, i, 1), LOW, -1, 3, 12, HIGH);
        }
        CHECKS.refuses("form", f -> x.form(f, 0, 0), LOW, -1, 4, HIGH);
        CHECKS.refuses("what", w -> x.form(0, 0, w), LOW, -1, 2, HIGH);
        x.motive(0, 1);
        CHECKS.illegalArgument("a note of the motive before", () -> x.form(0, 1, 0));
        x.clear();
        CHECKS.illegalArgument("behind clear()", () -> x.form(0, 0, 0));
    }

    private static void findUpAndDown() {
        CHECKS.sentence("Promise 14: A FORM is looked for (up, down 1 .. 9 each): at how many places it is FOUND");
        FormFinds x = Rows.with(60, 9, 60, 1, 60, 81, 60, 8);
        x.motive(0, 1);
        CHECKS.due("up 1, down 1", 1, () -> x.find(0, 1, 1));
        CHECKS.due("up 9, down 9", 1, () -> x.find(0, 9, 9));
        CHECKS.due("there", 0, () -> x.found(0));
        CHECKS.due("up 9, down 1", 1, () -> x.find(0, 9, 1));
        CHECKS.due("there", 2, () -> x.found(0));
        CHECKS.due("up 1, down 9", 1, () -> x.find(0, 1, 9));
        CHECKS.due("there", 1, () -> x.found(0));
        CHECKS.due("up 8, down 9", 1, () -> x.find(0, 8, 9));
        CHECKS.due("there", 3, () -> x.found(0));
        CHECKS.due("up 9, down 8", 0, () -> x.find(0, 9, 8));
        CHECKS.due("at all of 60", 60, () -> {
            FormFinds all = Rows.full();
            all.motive(0, 1);
            return all.find(3, 9, 9);
        });
    }

    private static void findLengthsDoNotCount() {
        CHECKS.sentence("Promise 14: both 0: LENGTHS do not count");
        FormFinds x = Rows.with(60, 1, 60, 999, 60, 7);
        x.motive(0, 1);
        CHECKS.due("both 0", 3, () -> x.find(0, 0, 0));
        CHECKS.refuses("up, down 0", up -> x.find(0, up, 0), LOW, -1, 1, 9, 10, HIGH);
        CHECKS.refuses("down, up 0", down -> x.find(0, 0, down), LOW, -1, 1, 9, 10, HIGH);
    }

    private static void findRefused() {
        CHECKS.sentence("Promise 14: IllegalArgument");
        FormFinds x = busy();
        CHECKS.refuses("form", f -> x.find(f, 1, 1), LOW, -1, 4, HIGH);
        CHECKS.refuses("form, lengths do not count", f -> x.find(f, 0, 0), LOW, -1, 4, HIGH);
        CHECKS.refuses("up", up -> x.find(0, up, 1), LOW, -1, 0, 10, HIGH);
        CHECKS.refuses("down", down -> x.find(0, 1, down), LOW, -1, 0, 10, HIGH);
        CHECKS.refuses("up and down", n -> x.find(0, n, n), LOW, -1, 10, HIGH);
        CHECKS.due("those found before remain", 2, () -> x.of(3));
    }

    private static void findWithoutAMotive() {
        CHECKS.sentence("Promise 14: IllegalState: there is no MOTIVE");
        CHECKS.illegalState("nor notes", () -> new FormFinds().find(0, 0, 0));
        FormFinds x = Rows.full();
        CHECKS.illegalState("but notes", () -> x.find(3, 9, 9));
        x.motive(0, 1);
        x.drop(60);
        CHECKS.due("a motive, but no notes", 0, () -> x.find(0, 0, 0));
        x.clear();
        CHECKS.illegalState("behind clear()", () -> x.find(0, 0, 0));
        CHECKS.illegalArgument("nor a form", () -> x.find(4, 0, 0));
    }

    private static void answerOfANote() {
        CHECKS.sentence("Promise 15: PITCH of NOTE i of THE ANSWER");
        FormFinds x = Rows.pitches(0, 127, 7);
        x.motive(0, 3);
        CHECKS.due("the first", 7, () -> x.answer(0, 0, 0));
        CHECKS.due("above 127", 134, () -> x.answer(0, 0, 1));
        CHECKS.due("above 127, 5 higher", 132, () -> x.answer(0, 12, 1));
        CHECKS.due("the last", 14, () -> x.answer(0, 2, 2));
        CHECKS.due("the last, in the head", 12, () -> x.answer(0, 3, 2));
    }

    private static void answerRefused() {
        CHECKS.sentence("Promise 15: IllegalArgument: also no such NOTE, none without a MOTIVE");
        FormFinds x = Rows.full();
        CHECKS.refuses("without a motive", i -> x.answer(0, 0, i), -1, 0, 1);
        CHECKS.illegalArgument("nor notes", () -> new FormFinds().answer(0, 0, 0));
        x.motive(0, 3);
        CHECKS.refuses("note", i -> x.answer(0, 12, i), LOW, -1, 3, 12, HIGH);
        CHECKS.refuses("key", key -> x.answer(key, 0, 0), LOW, -1, 12, HIGH);
        CHECKS.refuses("head", head -> x.answer(0, head, 0), LOW, -1, 13, HIGH);
        x.motive(0, 1);
        CHECKS.illegalArgument("a note of the motive before", () -> x.answer(0, 0, 1));
        x.clear();
        CHECKS.illegalArgument("behind clear()", () -> x.answer(0, 0, 0));
    }

    private static void entriesTellHowMany() {
        CHECKS.sentence("Promise 16: THE ANSWER is looked for: at how many places it is FOUND");
        FormFinds x = Rows.full();
        x.motive(0, 12);
        CHECKS.due("12 notes in 60", 49, () -> x.entries(0, 0));
        CHECKS.due("the last place", 48, () -> x.found(48));
        CHECKS.due("nowhere", 0, () -> x.entries(9, 1));
        x.motive(0, 1);
        CHECKS.due("one note at each place", 60, () -> x.entries(9, 1));
        x.drop(60);
        CHECKS.due("in no notes", 0, () -> x.entries(9, 1));
        FormFinds same = Rows.alike(12);
        same.motive(0, 12);
        CHECKS.due("in as many notes as it has", 1, () -> same.entries(0, 0));
        same.drop(1);
        CHECKS.due("in one note less", 0, () -> same.entries(0, 0));
    }

    private static void entriesRefused() {
        CHECKS.sentence("Promise 16: IllegalArgument");
        FormFinds x = busy();
        CHECKS.refuses("key", key -> x.entries(key, 0), LOW, -1, 12, HIGH);
        CHECKS.refuses("head", head -> x.entries(0, head), LOW, -1, 13, HIGH);
        CHECKS.due("those found before remain", 2, () -> x.of(3));
        CHECKS.due("key 11, head 12", 2, () -> x.entries(11, 12));
    }

    private static void entriesWithoutAMotive() {
        CHECKS.sentence("Promise 16: IllegalState: there is no MOTIVE");
        CHECKS.illegalState("nor notes", () -> new FormFinds().entries(0, 0));
        FormFinds x = Rows.full();
        CHECKS.illegalState("but notes", () -> x.entries(11, 12));
        x.motive(0, 1);
        x.clear();
        CHECKS.illegalState("behind clear()", () -> x.entries(0, 0));
        CHECKS.illegalArgument("nor a key", () -> x.entries(12, 0));
    }

    private static void foundOfTheLast() {
        CHECKS.sentence("Promise 17: The k-th place, from 0, at which what find() or entries() looked for "
            + "last was FOUND");
        FormFinds x = Rows.letters("abacaba");
        x.motive(0, 2);
        x.find(0, 0, 0);
        CHECKS.same("what find() looked for", "0 4 ", Rows.found(x));
        x.find(1, 0, 0);
        CHECKS.same("what find() looked for then", "1 5 ", Rows.found(x));
        x.entries(0, 0);
        CHECKS.same("what entries() looked for then", "0 4 ", Rows.found(x));
        x.motive(2, 2);
        x.find(0, 0, 0);
        CHECKS.same("what find() looked for at last", "2 ", Rows.found(x));
        x.drop(7);
        CHECKS.same("still that one", "2 ", Rows.found(x));
        x.find(0, 0, 0);
        CHECKS.same("nothing any more", "", Rows.found(x));
    }

    private static void foundNone() {
        CHECKS.sentence("Promise 17: NONE: there is none such");
        CHECKS.due("before any", -1, () -> Rows.full().found(0));
        FormFinds x = busy();
        CHECKS.due("the last one", 2, () -> x.found(1));
        for (int k : new int[] {2, 3, 59, 60, 61, HIGH}) {
            CHECKS.due("found(" + k + ")", -1, () -> x.found(k));
        }
        FormFinds all = Rows.full();
        all.motive(0, 1);
        all.find(0, 0, 0);
        CHECKS.due("the last of 60", 59, () -> all.found(59));
        CHECKS.due("behind 60", -1, () -> all.found(60));
        all.clear();
        CHECKS.due("behind clear()", -1, () -> all.found(0));
    }

    private static void foundRefused() {
        CHECKS.sentence("Promise 17: IllegalArgument: k is below 0");
        CHECKS.refuses("of two", k -> busy().found(k), LOW, -2, -1);
        CHECKS.refuses("of none", k -> new FormFinds().found(k), LOW, -1);
    }

    private static void sectionsByBaseAndBy() {
        CHECKS.sentence("Promise 18: THE SECTIONS by base (0 .. 1000) and by (0 .. 100) are made: how many");
        FormFinds x = Rows.pitches(0, 12, 12, 20);
        CHECKS.due("base 0, by 0", 1, () -> x.sections(0, 0));
        CHECKS.due("cost", 0, () -> x.of(2));
        CHECKS.due("base 0, by 100", 3, () -> x.sections(0, 100));
        CHECKS.due("cost", 0, () -> x.of(2));
        CHECKS.due("base 1000, by 0", 1, () -> x.sections(1000, 0));
        CHECKS.due("cost", 1000, () -> x.of(2));
        CHECKS.due("base 1000, by 100", 2, () -> x.sections(1000, 100));
        CHECKS.due("cost", 2800, () -> x.of(2));
        CHECKS.due("where the second begins", 1, () -> x.section(1));
    }

    private static void sectionsRefused() {
        CHECKS.sentence("Promise 18: IllegalArgument");
        FormFinds x = busy();
        CHECKS.refuses("base", base -> x.sections(base, 1), LOW, -1, 1001, HIGH);
        CHECKS.refuses("by", by -> x.sections(1, by), LOW, -1, 101, HIGH);
        CHECKS.same("those made before remain", "0 cost 3", Rows.sections(x));
        CHECKS.refuses("base of none", base -> new FormFinds().sections(base, 1), -1, 1001);
        CHECKS.refuses("by of none", by -> new FormFinds().sections(1, by), -1, 101);
    }

    private static void sectionOfThoseMadeLast() {
        CHECKS.sentence("Promise 19: Where SECTION k, from 0, of those made last begins");
        FormFinds x = Rows.pitches(0, 0, 50, 50, 100);
        x.sections(1, 1);
        CHECKS.same("those made", "0 2 4 cost 3", Rows.sections(x));
        x.sections(1000, 1);
        CHECKS.same("those made last", "0 cost 1100", Rows.sections(x));
        x.sections(0, 1);
        x.drop(5);
        CHECKS.same("still those made last", "0 2 4 cost 0", Rows.sections(x));
        x.sections(0, 1);
        CHECKS.same("none any more", "cost 0", Rows.sections(x));
    }

    private static void sectionNone() {
        CHECKS.sentence("Promise 19: NONE: there is none such");
        CHECKS.due("before any", -1, () -> Rows.full().section(0));
        FormFinds x = Rows.pitches(0, 0, 50);
        x.sections(1, 1);
        CHECKS.due("the last one", 2, () -> x.section(1));
        for (int k : new int[] {2, 3, 59, 60, 61, HIGH}) {
            CHECKS.due("section(" + k + ")", -1, () -> x.section(k));
        }
        FormFinds all = Rows.zigzag();
        all.sections(0, 1);
        CHECKS.due("the last of 60", 59, () -> all.section(59));
        CHECKS.due("behind 60", -1, () -> all.section(60));
        all.clear();
        CHECKS.due("behind clear()", -1, () -> all.section(0));
    }

    private static void sectionRefused() {
        CHECKS.sentence("Promise 19: IllegalArgument: k is below 0");
        CHECKS.refuses("of one", k -> busy().section(k), LOW, -2, -1);
        CHECKS.refuses("of none", k -> new FormFinds().section(k), LOW, -1);
    }

    private static void ofIs(String when, FormFinds x, int... want) {
        for (int what = 0; what <= 4; what++) {
            int w = what;
            CHECKS.due(when + ", of(" + w + ")", want[w], () -> x.of(w));
        }
    }

    private static void ofEach() {
        CHECKS.sentence("Promise 20: What = 0 how many NOTES, 1 NOTES of THE MOTIVE (0: none), "
            + "2 cost of THE SECTIONS made last (0: none), 3 places FOUND last, 4 REPEATS found last");
        ofIs("new", new FormFinds(), 0, 0, 0, 0, 0);
        FormFinds x = busy();
        ofIs("busy", x, 5, 2, 3, 2, 2);
        x.drop(5);
        ofIs("behind drop of all", x, 0, 2, 3, 2, 2);
        x.find(0, 0, 0);
        ofIs("behind find in none", x, 0, 2, 3, 0, 2);
        x.repeats(0, 1);
        ofIs("behind repeats of none", x, 0, 2, 3, 0, 0);
        x.sections(1000, 100);
        ofIs("behind sections of none", x, 0, 2, 0, 0, 0);
        FormFinds full = Rows.full();
        full.motive(0, 12);
        full.entries(0, 0);
        full.repeats(0, 1);
        full.sections(1000, 100);
        ofIs("full", full, 60, 12, 1000, 49, 59);
        full.clear();
        ofIs("cleared", full, 0, 0, 0, 0, 0);
    }

    private static void ofRefused() {
        CHECKS.sentence("Promise 20: IllegalArgument");
        CHECKS.refuses("what", w -> busy().of(w), LOW, -1, 5, HIGH);
        CHECKS.refuses("what of a new one", w -> new FormFinds().of(w), LOW, -1, 5, HIGH);
    }
}
