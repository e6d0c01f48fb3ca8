/** The boundary cases that 'What it is' and 'Terms' of the document name, a test for each sentence. */
final class TermsEdgesTest {
    private static final int LOW = Rows.LOW;
    private static final int HIGH = Rows.HIGH;
    private static final Checks CHECKS = new Checks();

    public static void main(String[] args) {
        callsOfOneObject();
        notes();
        pitch();
        length();
        steps();
        countOfSteps();
        turns();
        pitchAndLengthAsOne();
        repeatOfTwoPlaces();
        repeatOfOneItem();
        repeatsOverOneAnother();
        repeatsNotLongerAhead();
        repeatsNotLongerBehind();
        orderOfRepeats();
        motiveOf1To12();
        motiveAsItWas();
        formsOfOneNote();
        turnedFromTheSamePitch();
        backwardsFromTheLast();
        foundWhereAsManyNotesAre();
        foundBySteps();
        foundByLengths();
        answerInAKey();
        answerWithAHead();
        answerModulo12();
        answerFoundBySteps();
        sectionsPartAll();
        sectionsNoneEmpty();
        sectionsCost();
        sectionsOfLeastCost();
        sectionsTheFewest();
        sectionsWithoutNotes();
        orderOfExceptions();
        refusedNumbersChangeNothing();
        refusedStatesChangeNothing();
        CHECKS.finish();
    }

    private static void callsOfOneObject() {
        CHECKS.sentence("An object is used for at most 512 calls after it has been made");
        FormFinds dear = Rows.zigzag();
        dear.motive(0, 12);
        for (int call = 61; call < 509; call += 4) {
            dear.repeats(call % 5, 1);
            dear.find(call % 4, 1, 1);
            dear.passages(0, 30);
            dear.sections(1, call % 100);
        }
        CHECKS.due("call 510, behind dear ones", 60, () -> dear.sections(1, 100));
        CHECKS.due("call 511, behind dear ones", 29, () -> dear.repeats(1, 1));
        CHECKS.due("call 512, behind dear ones", 57, () -> dear.repeat(0, 2));
        FormFinds brief = new FormFinds();
        for (int call = 0; call < 510; call += 2) {
            brief.note(1, 1);
            brief.drop(1);
        }
        CHECKS.due("call 511, behind notes and drops", 0, () -> brief.note(2, 2));
        CHECKS.due("call 512, behind notes and drops", 2, () -> brief.item(0, 0));
        FormFinds refused = Rows.full();
        for (int call = 60; call < 511; call++) {
            CHECKS.illegalState("call " + (call + 1), () -> refused.note(1, 1));
        }
        CHECKS.due("call 512, behind refused ones", 60, () -> refused.of(0));
        FormFinds cleared = new FormFinds();
        for (int call = 0; call < 511; call++) {
            if (call % 61 == 60) {
                CHECKS.due("clear() of 60 as call " + (call + 1), 60, cleared::clear);
            } else {
                cleared.note(call % 61, 1);
            }
        }
        CHECKS.due("call 512, behind clears", 23, cleared::clear);
    }

    private static void notes() {
        CHECKS.sentence("NOTES 0, 1, .., 60 at most");
        FormFinds x = new FormFinds();
        for (int i = 0; i < 60; i++) {
            int number = i;
            CHECKS.due("note " + number, number, () -> x.note(number, number + 1));
        }
        CHECKS.illegalState("one more", () -> x.note(60, 1));
        CHECKS.due("notes", 60, () -> x.of(0));
        CHECKS.due("the first", 1, () -> x.item(4, 0));
        CHECKS.due("the last", 59060, () -> x.item(4, 59));
        CHECKS.refuses("note", i -> x.item(4, i), -1, 60);
    }

    private static void pitch() {
        CHECKS.sentence("a PITCH 0 .. 127");
        FormFinds x = new FormFinds();
        CHECKS.due("the lowest", 0, () -> x.note(0, 5));
        CHECKS.due("the highest", 1, () -> x.note(127, 5));
        CHECKS.refuses("pitch", p -> x.note(p, 5), LOW, LOW + 1, -128, -1, 128, 129, 255, 256, HIGH);
        CHECKS.same("those taken", "0 127 ", Rows.items(x, 0));
    }

    private static void length() {
        CHECKS.sentence("a LENGTH 1 .. 999");
        FormFinds x = new FormFinds();
        CHECKS.due("the shortest", 0, () -> x.note(60, 1));
        CHECKS.due("the longest", 1, () -> x.note(60, 999));
        CHECKS.refuses("length", l -> x.note(60, l), LOW, LOW + 1, -999, -1, 0, 1000, 1001, HIGH);
        CHECKS.same("those taken", "1 999 ", Rows.items(x, 3));
    }

    private static void steps() {
        CHECKS.sentence("A STEP is a PITCH less the one before");
        CHECKS.same("the widest and the least", "127 -127 0 1 -1 ", Rows.items(Rows.pitches(0, 127, 0, 0, 1, 0), 1));
    }

    private static void countOfSteps() {
        CHECKS.sentence("1 the STEPS (one less than NOTES, none of none)");
        for (int view = 1; view <= 2; view++) {
            int v = view;
            CHECKS.due("of none, view " + v, 0, () -> new FormFinds().items(v));
            CHECKS.due("of one, view " + v, 0, () -> Rows.alike(1).items(v));
            CHECKS.due("of two, view " + v, 1, () -> Rows.alike(2).items(v));
            CHECKS.due("of 60, view " + v, 59, () -> Rows.alike(60).items(v));
            CHECKS.refuses("step of none", i -> new FormFinds().item(v, i), -1, 0);
            CHECKS.refuses("step of one", i -> Rows.alike(1).item(v, i), -1, 0, 1);
            CHECKS.due("the last step of 60", 0, () -> Rows.alike(60).item(v, 58));
            CHECKS.refuses("step of 60", i -> Rows.alike(60).item(v, i), -1, 59, 60);
        }
    }

    private static void turns() {
        CHECKS.sentence("2 the TURNS: 1, 0 or -1 of each STEP that is above 0, 0, below");
        CHECKS.same("of the least steps", "1 0 -1 ", Rows.items(Rows.pitches(60, 61, 61, 60), 2));
        CHECKS.same("of the widest steps", "1 0 -1 0 ", Rows.items(Rows.pitches(0, 127, 127, 0, 0), 2));
    }

    private static void pitchAndLengthAsOne() {
        CHECKS.sentence("4 PITCH and LENGTH of each NOTE, as one ITEM");
        FormFinds x = Rows.with(60, 1, 60, 2, 61, 1, 60, 1, 61, 2);
        CHECKS.due("different ones", 4, () -> x.passages(4, 1));
        CHECKS.due("repeats", 1, () -> x.repeats(4, 1));
        CHECKS.same("where both are the same", "(0,3,1)", Rows.repeats(x));
        CHECKS.due("the same pitch is not enough", 0, () -> x.alike(4, 0, 1, 1));
        CHECKS.due("the same length is not enough", 0, () -> x.alike(4, 0, 2, 1));
        CHECKS.due("both the same", 100, () -> x.alike(4, 0, 3, 1));
        FormFinds far = Rows.with(0, 999, 1, 1, 126, 999, 127, 1);
        CHECKS.same("the longest of one pitch, the shortest of the next", "999 1001 126999 127001 ",
            Rows.items(far, 4));
        CHECKS.due("they are different", 4, () -> far.passages(4, 1));
    }

    private static void repeatsAre(String what, FormFinds x, int view, String want) {
        x.repeats(view, 1);
        CHECKS.same(what, want, Rows.repeats(x));
    }

    private static void repeatOfTwoPlaces() {
        CHECKS.sentence("A REPEAT of a VIEW is (i, j, m), i less than j");
        repeatsAre("of none", new FormFinds(), 0, "");
        repeatsAre("of one note", Rows.letters("a"), 0, "");
        repeatsAre("of one step", Rows.letters("ab"), 1, "");
        repeatsAre("of different ones", Rows.letters("abc"), 0, "");
        repeatsAre("the first and the last", Rows.letters("abcda"), 0, "(0,4,1)");
    }

    private static void repeatOfOneItem() {
        CHECKS.sentence("m 1 or more: the m ITEMS from place i on are those from place j on");
        repeatsAre("of one item", Rows.letters("aa"), 0, "(0,1,1)");
        repeatsAre("of one item apart", Rows.letters("abca"), 0, "(0,3,1)");
        repeatsAre("of 59 items", Rows.full(), 0, fallingFrom(59));
        repeatsAre("of 58 steps", Rows.full(), 1, fallingFrom(58));
    }

    /** What one item again and again repeats: (0,1,m)(0,2,m-1) .. */
    private static String fallingFrom(int m) {
        StringBuilder text = new StringBuilder();
        for (int j = 1; j <= m; j++) {
            text.append("(0,").append(j).append(',').append(m + 1 - j).append(')');
        }
        return text.toString();
    }

    private static void repeatsOverOneAnother() {
        CHECKS.sentence("(they may lie over one another)");
        repeatsAre("by all but one", Rows.letters("aaaa"), 0, "(0,1,3)(0,2,2)(0,3,1)");
        repeatsAre("by one", Rows.letters("abaccaba"), 0, "(0,5,3)(0,2,1)(0,7,1)(2,5,1)(3,4,1)(5,7,1)");
        repeatsAre("by two of four", Rows.letters("ababab"), 0, "(0,2,4)(0,4,2)");
        repeatsAre("side by side", Rows.letters("abab"), 0, "(0,2,2)");
    }

    private static void repeatsNotLongerAhead() {
        CHECKS.sentence("there is none ahead of i, or it is another one than that ahead of j");
        repeatsAre("none ahead of i", Rows.letters("abcab"), 0, "(0,3,2)");
        repeatsAre("another one ahead of i", Rows.letters("xabyab"), 0, "(1,4,2)");
        repeatsAre("the same one ahead of i", Rows.letters("xabyxab"), 0, "(0,4,3)");
        repeatsAre("i behind the one that is ahead of j", Rows.letters("bcabca"), 0, "(0,3,3)");
        repeatsAre("another length ahead", Rows.with(1, 1, 2, 2, 3, 3, 1, 4, 2, 2), 4, "(1,4,1)");
    }

    private static void repeatsNotLongerBehind() {
        CHECKS.sentence("there is none behind that from j on, or it is another one than that behind that from i on");
        repeatsAre("none behind", Rows.letters("abcdab"), 0, "(0,4,2)");
        repeatsAre("another one behind", Rows.letters("abcdabe"), 0, "(0,4,2)");
        repeatsAre("the same one behind", Rows.letters("abcdabc"), 0, "(0,4,3)");
        repeatsAre("none behind, and over one another", Rows.letters("xaaa"), 0, "(1,2,2)(1,3,1)");
        repeatsAre("another one behind, over one another", Rows.letters("aaab"), 0, "(0,1,2)(0,2,1)");
    }

    private static void orderOfRepeats() {
        CHECKS.sentence("They are in order: greater m first, then lesser i, then lesser j");
        repeatsAre("greater m first, though i is greater", Rows.letters("acabdab"), 0, "(2,5,2)(0,2,1)(0,5,1)");
        repeatsAre("lesser i first, though j is greater", Rows.letters("abba"), 0, "(0,3,1)(1,2,1)");
        repeatsAre("lesser j first", Rows.letters("abaca"), 0, "(0,2,1)(0,4,1)(2,4,1)");
    }

    private static void motiveOf1To12() {
        CHECKS.sentence("THE MOTIVE is a row of 1 to 12 NOTES");
        FormFinds x = Rows.full();
        CHECKS.refuses("motive of", n -> x.motive(0, n), LOW, -1, 0, 13, 60, HIGH);
        CHECKS.due("none as yet", 0, () -> x.of(1));
        CHECKS.due("of 1", 64, () -> x.motive(0, 1));
        CHECKS.due("its notes", 1, () -> x.of(1));
        CHECKS.due("of 12", 64, () -> x.motive(0, 12));
        CHECKS.due("its notes", 12, () -> x.of(1));
    }

    private static void motiveAsItWas() {
        CHECKS.sentence("as they were when it was told");
        FormFinds x = Rows.with(60, 1, 62, 2, 64, 3);
        x.motive(1, 2);
        x.drop(2);
        CHECKS.same("behind drop", "62/2 64/3 ", Rows.form(x, 0));
        x.note(10, 10);
        x.note(20, 20);
        CHECKS.same("behind others in its place", "62/2 64/3 ", Rows.form(x, 0));
        CHECKS.due("found in the notes as they are now", 0, () -> x.find(0, 0, 0));
        x.drop(3);
        CHECKS.same("behind drop of all", "62/2 64/3 ", Rows.form(x, 0));
        CHECKS.same("its answer", "69 71 ", Rows.answer(x, 0, 0));
        CHECKS.due("found in no notes", 0, () -> x.find(0, 0, 0));
        x.clear();
        CHECKS.due("behind clear", 0, () -> x.of(1));
    }

    private static void formsOfOneNote() {
        CHECKS.sentence("FORMS of it: 0 as it is");
        FormFinds x = Rows.with(1, 1, 100, 7);
        x.motive(1, 1);
        for (int form = 0; form < Rows.FORMS; form++) {
            CHECKS.same("form " + form + " of one note", "100/7 ", Rows.form(x, form));
        }
        CHECKS.refuses("form", f -> x.form(f, 0, 0), LOW, -1, 4, HIGH);
    }

    private static void turnedFromTheSamePitch() {
        CHECKS.sentence("1 TURNED: from the same PITCH on with the STEPS the other way");
        FormFinds x = Rows.with(127, 1, 0, 2, 0, 3, 1, 4);
        x.motive(0, 4);
        CHECKS.same("with the widest steps", "127/1 254/2 254/3 253/4 ", Rows.form(x, 1));
        CHECKS.same("and backwards", "1/4 2/3 2/2 -125/1 ", Rows.form(x, 3));
    }

    private static void backwardsFromTheLast() {
        CHECKS.sentence("2 BACKWARDS: from the last one on; 3 BACKWARDS, and that TURNED");
        FormFinds x = new FormFinds();
        for (int i = 0; i < 12; i++) {
            x.note(i * i, i + 1);
        }
        x.motive(0, 12);
        CHECKS.due("the first is the last", 121, () -> x.form(2, 0, 0));
        CHECKS.due("its length too", 12, () -> x.form(2, 0, 1));
        CHECKS.due("the last is the first", 0, () -> x.form(2, 11, 0));
        CHECKS.due("its length too", 1, () -> x.form(2, 11, 1));
        CHECKS.due("turned from the last pitch on", 121, () -> x.form(3, 0, 0));
        CHECKS.due("steps the other way", 142, () -> x.form(3, 1, 0));
        CHECKS.due("up to the first", 242, () -> x.form(3, 11, 0));
        CHECKS.due("lengths as backwards", 1, () -> x.form(3, 11, 1));
    }

    private static void foundAt(String what, FormFinds x, String want) {
        x.find(0, 0, 0);
        CHECKS.same(what, want, Rows.found(x));
    }

    private static void foundWhereAsManyNotesAre() {
        CHECKS.sentence("It is FOUND at a place, if as many NOTES from there on have the STEPS of the FORM");
        FormFinds x = Rows.letters("abcabc");
        x.motive(0, 3);
        foundAt("at the last place that has so many", x, "0 3 ");
        x.drop(1);
        foundAt("not where one is missing", x, "0 ");
        x.drop(2);
        foundAt("in as many notes as it has", x, "0 ");
        x.drop(1);
        foundAt("in one note less", x, "");
        x.drop(2);
        foundAt("in no notes", x, "");
        FormFinds all = Rows.full();
        all.motive(0, 12);
        CHECKS.due("12 notes over one another", 49, () -> all.find(3, 9, 9));
        CHECKS.due("the last place", 48, () -> all.found(48));
        all.motive(0, 1);
        CHECKS.due("one note", 60, () -> all.find(0, 1, 1));
        CHECKS.due("the last place of one note", 59, () -> all.found(59));
    }

    private static void foundBySteps() {
        CHECKS.sentence("have the STEPS of the FORM");
        FormFinds one = Rows.with(0, 1, 127, 2, 5, 3);
        one.motive(1, 1);
        foundAt("one note has no steps", one, "0 1 2 ");
        FormFinds wide = Rows.pitches(0, 127, 0, 127);
        wide.motive(0, 2);
        foundAt("the widest step", wide, "0 2 ");
        CHECKS.due("the widest step the other way", 1, () -> wide.find(1, 0, 0));
        FormFinds last = Rows.pitches(10, 12, 13, 20, 22, 24, 30, 31, 32, 40, 42, 43);
        last.motive(0, 3);
        foundAt("not where the last or the first step is another one", last, "0 9 ");
    }

    private static void foundByLengths() {
        CHECKS.sentence("unless LENGTHS do not count, each LENGTH times down is that of the FORM times up");
        FormFinds x = Rows.with(1, 111, 2, 1, 1, 999, 2, 9, 1, 999, 2, 1, 1, 111, 2, 9);
        x.motive(0, 2);
        CHECKS.due("lengths do not count", 4, () -> x.find(0, 0, 0));
        CHECKS.due("nine times as long, each of them", 1, () -> x.find(0, 9, 1));
        CHECKS.due("there", 2, () -> x.found(0));
        CHECKS.due("the lengths as they are", 1, () -> x.find(0, 1, 1));
        x.motive(2, 2);
        CHECKS.due("a ninth as long, each of them", 1, () -> x.find(0, 1, 9));
        CHECKS.due("there", 0, () -> x.found(0));
        CHECKS.due("nine times as long as the longest", 0, () -> x.find(0, 9, 1));
        FormFinds odd = Rows.with(60, 3, 60, 1, 60, 2);
        odd.motive(0, 1);
        CHECKS.due("half of 3 is no length, neither 1 nor 2", 0, () -> odd.find(0, 1, 2));
        CHECKS.due("a third of 3", 1, () -> odd.find(0, 1, 3));
        CHECKS.due("two thirds of 3", 1, () -> odd.find(0, 6, 9));
        CHECKS.due("there", 2, () -> odd.found(0));
    }

    private static void answerInAKey() {
        CHECKS.sentence("THE ANSWER to THE MOTIVE in a key (0 .. 11)");
        FormFinds x = Rows.pitches(67, 66);
        x.motive(0, 2);
        CHECKS.same("key 0", "72 73 ", Rows.answer(x, 0, 12));
        CHECKS.same("key 11", "74 71 ", Rows.answer(x, 11, 12));
        CHECKS.refuses("answer in key", key -> x.answer(key, 12, 0), LOW, -1, 12, HIGH);
        CHECKS.refuses("entries in key", key -> x.entries(key, 12), LOW, -1, 12, HIGH);
        CHECKS.due("entries in key 0", 0, () -> x.entries(0, 12));
        CHECKS.due("entries in key 5", 1, () -> x.entries(5, 12));
        CHECKS.due("entries in key 11", 0, () -> x.entries(11, 12));
    }

    private static void answerWithAHead() {
        CHECKS.sentence("with a head (0 .. 12): .. of the first head NOTES those");
        FormFinds x = new FormFinds();
        for (int i = 0; i < 12; i++) {
            x.note(67, 1);
        }
        x.motive(0, 12);
        CHECKS.same("head 0", "74 74 74 74 74 74 74 74 74 74 74 74 ", Rows.answer(x, 0, 0));
        CHECKS.same("head 1", "72 74 74 74 74 74 74 74 74 74 74 74 ", Rows.answer(x, 0, 1));
        CHECKS.same("head 11", "72 72 72 72 72 72 72 72 72 72 72 74 ", Rows.answer(x, 0, 11));
        CHECKS.same("head 12", "72 72 72 72 72 72 72 72 72 72 72 72 ", Rows.answer(x, 0, 12));
        x.motive(0, 2);
        CHECKS.same("a head of more than the motive has", "72 72 ", Rows.answer(x, 0, 3));
        CHECKS.refuses("answer with head", head -> x.answer(0, head, 0), LOW, -1, 13, HIGH);
        CHECKS.refuses("entries with head", head -> x.entries(0, head), LOW, -1, 13, HIGH);
        CHECKS.due("entries with head 0", 11, () -> x.entries(0, 0));
        CHECKS.due("entries with head 1", 0, () -> x.entries(0, 1));
        CHECKS.due("entries with head 12", 11, () -> x.entries(0, 12));
    }

    private static void answerModulo12() {
        CHECKS.sentence("each PITCH 7 higher, but .. those whose PITCH is 7 above key, modulo 12: 5 higher");
        for (int pitch = 0; pitch <= 127; pitch++) {
            FormFinds x = Rows.pitches(pitch);
            x.motive(0, 1);
            StringBuilder want = new StringBuilder();
            StringBuilder got = new StringBuilder();
            for (int key = 0; key <= 11; key++) {
                boolean isFifth = (pitch + 12 - key) % 12 == 7;
                want.append(isFifth ? pitch + 5 : pitch + 7).append(' ');
                got.append(x.answer(key, 1, 0)).append(' ');
            }
            CHECKS.same("pitch " + pitch + " in each key", want.toString(), got.toString());
        }
        FormFinds low = Rows.pitches(0, 4, 5, 6, 7);
        low.motive(0, 5);
        CHECKS.same("0 is 7 above 5", "5 11 12 13 14 ", Rows.answer(low, 5, 12));
        CHECKS.same("6 is 7 above 11", "7 11 12 11 14 ", Rows.answer(low, 11, 12));
        CHECKS.same("7 is 7 above 0", "7 11 12 13 12 ", Rows.answer(low, 0, 12));
        FormFinds high = Rows.pitches(127, 126);
        high.motive(0, 2);
        CHECKS.same("127 is 7 above 0", "132 133 ", Rows.answer(high, 0, 12));
    }

    private static void answerFoundBySteps() {
        CHECKS.sentence("It is FOUND where as many NOTES have its STEPS (LENGTHS do not count)");
        FormFinds x = Rows.with(60, 1, 67, 1, 0, 999, 5, 3);
        x.motive(0, 2);
        CHECKS.due("at the last place, in other lengths", 1, () -> x.entries(0, 12));
        CHECKS.same("there", "2 ", Rows.found(x));
        x.drop(1);
        CHECKS.due("one note less", 0, () -> x.entries(0, 12));
        x.drop(2);
        CHECKS.due("in less notes than it has", 0, () -> x.entries(0, 0));
        x.drop(1);
        CHECKS.due("in no notes", 0, () -> x.entries(0, 0));
    }

    private static void partedInto(String what, FormFinds x, int base, int by, String want) {
        x.sections(base, by);
        CHECKS.same(what, want, Rows.sections(x));
    }

    private static void sectionsPartAll() {
        CHECKS.sentence("SECTIONS part all NOTES into rows");
        partedInto("one note", Rows.pitches(60), 5, 5, "0 cost 5");
        partedInto("two notes together", Rows.pitches(60, 61), 5, 5, "0 cost 10");
        partedInto("two notes apart", Rows.pitches(60, 62), 5, 5, "0 1 cost 10");
        partedInto("the first alone", Rows.pitches(0, 90, 90), 5, 5, "0 1 cost 10");
        partedInto("the last alone", Rows.pitches(0, 0, 90), 5, 5, "0 2 cost 10");
        FormFinds x = Rows.zigzag();
        CHECKS.due("60 notes apart", 60, () -> x.sections(2, 1));
        CHECKS.due("the last of them", 59, () -> x.section(59));
        CHECKS.due("60 notes together", 1, () -> x.sections(3, 1));
    }

    private static void sectionsNoneEmpty() {
        CHECKS.sentence("none empty");
        partedInto("for nothing", Rows.pitches(1, 2, 3), 0, 1, "0 1 2 cost 0");
        partedInto("for nothing, one note", Rows.pitches(1), 0, 0, "0 cost 0");
        CHECKS.due("60 notes, for nothing", 60, () -> Rows.zigzag().sections(0, 1));
    }

    private static void sectionsCost() {
        CHECKS.sentence("A SECTION costs base, and by times its greatest PITCH less its least one");
        partedInto("the greatest behind the least", Rows.pitches(50, 10, 90, 60), 1000, 1, "0 cost 1080");
        partedInto("the least behind the greatest", Rows.pitches(60, 90, 10, 50), 1000, 1, "0 cost 1080");
        partedInto("the greatest first", Rows.pitches(90, 60, 50, 10), 1000, 1, "0 cost 1080");
        partedInto("the greatest last", Rows.pitches(10, 50, 60, 90), 1000, 1, "0 cost 1080");
        partedInto("all the same", Rows.pitches(127, 127, 127), 1000, 100, "0 cost 1000");
        partedInto("as wide as can be", Rows.pitches(0, 127), 1000, 7, "0 cost 1889");
        FormFinds x = Rows.zigzag();
        x.sections(1000, 100);
        CHECKS.due("60 notes together", 13700, () -> x.of(2));
    }

    private static void sectionsOfLeastCost() {
        CHECKS.sentence("THE SECTIONS are those of least cost together");
        partedInto("one less than apart", Rows.pitches(0, 10), 11, 1, "0 cost 21");
        partedInto("one more than apart", Rows.pitches(0, 10), 9, 1, "0 1 cost 18");
        partedInto("the nearest is not the best", Rows.pitches(0, 6, 7, 13), 4, 1, "0 1 3 cost 13");
        partedInto("where the gap is", Rows.pitches(60, 61, 62, 90, 91), 5, 1, "0 3 cost 13");
    }

    private static void sectionsTheFewest() {
        CHECKS.sentence("of these the fewest");
        partedInto("one or two for the same", Rows.pitches(0, 10), 10, 1, "0 cost 20");
        partedInto("one, two or three for the same", Rows.pitches(0, 10, 20), 10, 1, "0 cost 30");
        partedInto("all for nothing", Rows.pitches(0, 127, 3), 0, 0, "0 cost 0");
        partedInto("those of one pitch for nothing", Rows.pitches(5, 5, 6, 6, 5), 0, 100, "0 2 4 cost 0");
        partedInto("two to five for the same", Rows.pitches(0, 10, 20, 100, 110), 10, 1, "0 3 cost 50");
    }

    private static void sectionsWithoutNotes() {
        CHECKS.sentence("(Without NOTES none, cost 0.)");
        FormFinds x = new FormFinds();
        CHECKS.due("sections", 0, () -> x.sections(1000, 100));
        CHECKS.same("none", "cost 0", Rows.sections(x));
        FormFinds y = Rows.pitches(1, 100, 1);
        y.sections(7, 1);
        y.drop(3);
        CHECKS.due("sections behind drop of all", 0, () -> y.sections(7, 1));
        CHECKS.same("none", "cost 0", Rows.sections(y));
    }

    private static void orderOfExceptions() {
        CHECKS.sentence("Of several the first one in this order");
        FormFinds x = Rows.full();
        CHECKS.refuses("60 notes, and pitch", p -> x.note(p, 1), LOW, -1, 128, HIGH);
        CHECKS.refuses("60 notes, and length", l -> x.note(1, l), LOW, 0, 1000, HIGH);
        CHECKS.illegalState("60 notes", () -> x.note(1, 1));
        CHECKS.refuses("no motive, and form", f -> x.find(f, 1, 1), LOW, -1, 4, HIGH);
        CHECKS.refuses("no motive, and up", up -> x.find(0, up, 1), LOW, -1, 0, 10, HIGH);
        CHECKS.refuses("no motive, and down", down -> x.find(0, 1, down), LOW, -1, 0, 10, HIGH);
        CHECKS.illegalState("no motive", () -> x.find(0, 1, 1));
        CHECKS.refuses("no motive, and key", key -> x.entries(key, 0), LOW, -1, 12, HIGH);
        CHECKS.refuses("no motive, and head", head -> x.entries(0, head), LOW, -1, 13, HIGH);
        CHECKS.illegalState("no motive", () -> x.entries(0, 0));
        CHECKS.refuses("m 0, and view", v -> x.alike(v, 0, 0, 0), LOW, -1, 5, HIGH);
        CHECKS.refuses("m 0, and i", i -> x.alike(0, i, 0, 0), LOW, -1, 61, HIGH);
        CHECKS.refuses("m 0, and j", j -> x.alike(0, 0, j, 0), LOW, -1, 61, HIGH);
        CHECKS.arithmetic("m 0", () -> x.alike(0, 0, 0, 0));
    }

    /** A row of its own for each refused call, with all that a call could spoil. */
    private static FormFinds busy() {
        FormFinds x = Rows.with(60, 1, 62, 2, 60, 1, 62, 2, 60, 3);
        x.motive(1, 3);
        x.find(0, 0, 0);
        x.repeats(0, 1);
        x.sections(3, 1);
        return x;
    }

    private interface Call {
        int on(FormFinds x);
    }

    private static void refusedNumbersChangeNothing() {
        CHECKS.sentence("A call that throws changes nothing (IllegalArgument)");
        Call[] refused = {
            x -> x.note(-1, 1), x -> x.note(128, 1), x -> x.note(60, 0), x -> x.note(60, 1000),
            x -> x.drop(-1), x -> x.drop(6), x -> x.drop(HIGH), x -> x.drop(LOW),
            x -> x.items(-1), x -> x.items(5), x -> x.item(5, 0), x -> x.item(0, 5), x -> x.item(1, 4),
            x -> x.repeats(-1, 1), x -> x.repeats(5, 1), x -> x.repeats(1, 0), x -> x.repeats(1, 61),
            x -> x.repeat(-1, 0), x -> x.repeat(2, 0), x -> x.repeat(0, 3),
            x -> x.passages(5, 1), x -> x.passages(1, 0), x -> x.passages(1, 61), x -> x.period(5),
            x -> x.alike(5, 0, 0, 1), x -> x.alike(1, 0, 0, 5), x -> x.alike(1, 0, 0, -1),
            x -> x.motive(-1, 1), x -> x.motive(5, 1), x -> x.motive(0, 0), x -> x.motive(0, 6), x -> x.motive(0, 13),
            x -> x.form(4, 0, 0), x -> x.form(0, 3, 0), x -> x.form(0, 0, 2),
            x -> x.find(4, 0, 0), x -> x.find(1, 0, 1), x -> x.find(1, 1, 0), x -> x.find(1, 10, 10),
            x -> x.answer(12, 0, 0), x -> x.answer(0, 13, 0), x -> x.answer(0, 0, 3),
            x -> x.entries(12, 0), x -> x.entries(0, 13), x -> x.entries(-1, -1),
            x -> x.found(-1), x -> x.sections(-1, 1), x -> x.sections(1001, 1), x -> x.sections(1, -1),
            x -> x.sections(1, 101), x -> x.section(-1), x -> x.of(-1), x -> x.of(5),
        };
        String before = Rows.all(busy());
        CHECKS.same("before", "60001 62002 60001 62002 60003 ; 62/2 60/1 62/2 ; (0,2,3)(0,4,1); 1 ; 0 cost 5",
            before);
        for (int n = 0; n < refused.length; n++) {
            FormFinds x = busy();
            Call call = refused[n];
            CHECKS.illegalArgument("refused call " + n, () -> call.on(x));
            CHECKS.same("behind refused call " + n, before, Rows.all(x));
        }
    }

    private static void refusedStatesChangeNothing() {
        CHECKS.sentence("A call that throws changes nothing (IllegalState, Arithmetic)");
        FormFinds x = busy();
        String before = Rows.all(x);
        CHECKS.arithmetic("alike of none", () -> x.alike(1, 0, 0, 0));
        CHECKS.same("behind it", before, Rows.all(x));
        FormFinds y = Rows.zigzag();
        String full = Rows.items(y, 4);
        CHECKS.illegalState("note 60", () -> y.note(5, 5));
        CHECKS.same("behind it", full, Rows.items(y, 4));
        FormFinds z = Rows.pitches(1, 1, 50);
        z.repeats(0, 1);
        z.sections(1, 1);
        String noMotive = Rows.all(z);
        CHECKS.illegalState("find without a motive", () -> z.find(0, 0, 0));
        CHECKS.illegalState("entries without a motive", () -> z.entries(0, 0));
        CHECKS.same("behind both", noMotive, Rows.all(z));
    }
}
