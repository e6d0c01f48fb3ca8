import java.util.function.IntSupplier;

/** Long runs of mixed calls, right and wrong ones, held against SlowForms; the same runs every time. */
final class ModelTest {
    private static final int RUNS = 600;
    // The document says nothing about an object behind its 512th call.
    private static final int CALLS = 512;
    private static final int[] FAR = {Integer.MIN_VALUE, Integer.MIN_VALUE + 1, -1000, -13, -2, -1, 61, 128, 1001,
        Integer.MAX_VALUE - 1, Integer.MAX_VALUE};
    private static final int[] SCALE = {0, 2, 4, 5, 7, 9, 11, 12};

    private final Checks checks;
    private final int run;
    private final FormFinds x = new FormFinds();
    private final SlowForms slow = new SlowForms();
    private final int mostNotes;
    private final int tones;
    private final int differentLengths;
    private long seed;
    private int calls;

    private ModelTest(Checks checks, int run) {
        this.checks = checks;
        this.run = run;
        seed = 88172645463325252L + 7919L * run;
        mostNotes = run % 3 == 0 ? 60 : run % 3 == 1 ? 11 : 1 + upTo(30);
        tones = 1 + upTo(SCALE.length);
        differentLengths = 1 + upTo(4);
    }

    public static void main(String[] args) {
        Checks checks = new Checks();
        for (int run = 0; run < RUNS; run++) {
            new ModelTest(checks, run).go();
        }
        checks.finish();
    }

    private void go() {
        while (calls < CALLS) {
            step();
        }
    }

    private int upTo(int bound) {
        seed ^= seed << 13;
        seed ^= seed >>> 7;
        seed ^= seed << 17;
        return (int) Math.floorMod(seed, (long) bound);
    }

    /** Mostly least .. most, now and then right beside it or far off. */
    private int number(int least, int most) {
        int kind = upTo(40);
        if (kind == 0) {
            return least - 1;
        }
        if (kind == 1) {
            return most + 1;
        }
        if (kind == 2) {
            return FAR[upTo(FAR.length)];
        }
        return most < least ? least : least + upTo(most - least + 1);
    }

    private void both(String call, IntSupplier want, IntSupplier got) {
        if (calls < CALLS) {
            calls++;
            checks.same("run " + run + ", call " + calls + ": " + call, Checks.answerOf(want), Checks.answerOf(got));
        }
    }

    private void step() {
        int kind = upTo(100);
        if (kind < 30) {
            stepNotes(kind);
        } else if (kind < 60) {
            stepViews(kind);
        } else if (kind < 85) {
            stepMotive(kind);
        } else {
            stepRest(kind);
        }
    }

    private void stepNotes(int kind) {
        if (kind == 0 && upTo(4) == 0) {
            both("clear()", slow::clear, x::clear);
        } else if (kind <= 2) {
            int n = number(0, Math.min(slow.of(0), 1 + upTo(20)));
            both("drop(" + n + ")", () -> slow.drop(n), () -> x.drop(n));
        } else if (slow.of(0) < mostNotes || mostNotes == 60 && upTo(5) == 0) {
            boolean any = upTo(12) == 0;
            int p = any ? number(0, 127) : 60 + SCALE[upTo(tones)];
            int l = any ? number(1, 999) : 1 + upTo(differentLengths);
            both("note(" + p + ", " + l + ")", () -> slow.note(p, l), () -> x.note(p, l));
        }
    }

    private void stepViews(int kind) {
        int view = number(0, 4);
        int count = view >= 0 && view <= 4 ? slow.items(view) : 0;
        if (kind < 33) {
            both("items(" + view + ")", () -> slow.items(view), () -> x.items(view));
        } else if (kind < 38) {
            int i = number(0, count - 1);
            both("item(" + view + ", " + i + ")", () -> slow.item(view, i), () -> x.item(view, i));
        } else if (kind < 43) {
            int least = number(1, 1 + upTo(5));
            both("repeats(" + view + ", " + least + ")", () -> slow.repeats(view, least), () -> x.repeats(view, least));
            askRepeats(3);
        } else if (kind < 48) {
            askRepeats(1);
        } else if (kind < 52) {
            int m = number(1, upTo(3) == 0 ? 60 : 6);
            both("passages(" + view + ", " + m + ")", () -> slow.passages(view, m), () -> x.passages(view, m));
        } else if (kind < 55) {
            both("period(" + view + ")", () -> slow.period(view), () -> x.period(view));
        } else {
            int m = upTo(8) == 0 ? 0 : number(1, Math.max(count / 2, 1));
            int last = (int) Math.max(0L, (long) count - m);
            int i = number(0, last);
            int j = number(0, last);
            both("alike(" + view + ", " + i + ", " + j + ", " + m + ")", () -> slow.alike(view, i, j, m),
                () -> x.alike(view, i, j, m));
        }
    }

    private void askRepeats(int times) {
        for (int n = 0; n < times; n++) {
            int k = number(0, slow.of(4) - 1);
            for (int what = 0; what <= 2; what++) {
                int w = upTo(60) == 0 ? number(0, 2) : what;
                both("repeat(" + k + ", " + w + ")", () -> slow.repeat(k, w), () -> x.repeat(k, w));
            }
        }
    }

    private void stepMotive(int kind) {
        if (kind < 65) {
            int n = number(1, Math.min(12, 1 + upTo(Math.max(1, slow.of(0)))));
            int from = number(0, (int) Math.max(0L, (long) slow.of(0) - n));
            both("motive(" + from + ", " + n + ")", () -> slow.motive(from, n), () -> x.motive(from, n));
        } else if (kind < 69) {
            int form = number(0, 3);
            int i = number(0, slow.of(1) - 1);
            int what = number(0, 1);
            both("form(" + form + ", " + i + ", " + what + ")", () -> slow.form(form, i, what),
                () -> x.form(form, i, what));
        } else if (kind < 75) {
            int form = number(0, 3);
            boolean noLengths = upTo(2) == 0;
            int up = noLengths ? number(0, 0) : number(1, 1 + upTo(9));
            int down = noLengths ? number(0, 0) : number(1, 1 + upTo(9));
            both("find(" + form + ", " + up + ", " + down + ")", () -> slow.find(form, up, down),
                () -> x.find(form, up, down));
            askFound();
        } else if (kind < 80) {
            int key = number(0, 11);
            int head = number(0, 12);
            int i = number(0, slow.of(1) - 1);
            both("answer(" + key + ", " + head + ", " + i + ")", () -> slow.answer(key, head, i),
                () -> x.answer(key, head, i));
        } else {
            int key = number(0, 11);
            int head = number(0, 12);
            both("entries(" + key + ", " + head + ")", () -> slow.entries(key, head), () -> x.entries(key, head));
            askFound();
        }
    }

    private void askFound() {
        int k = number(0, slow.of(3));
        both("found(" + k + ")", () -> slow.found(k), () -> x.found(k));
    }

    private void stepRest(int kind) {
        if (kind < 87) {
            askFound();
        } else if (kind < 91) {
            int base = number(0, upTo(4) == 0 ? 1000 : 12);
            int by = number(0, upTo(4) == 0 ? 100 : 3);
            both("sections(" + base + ", " + by + ")", () -> slow.sections(base, by), () -> x.sections(base, by));
            both("of(2)", () -> slow.of(2), () -> x.of(2));
            askSection();
            askSection();
        } else if (kind < 94) {
            askSection();
        } else {
            int what = number(0, 4);
            both("of(" + what + ")", () -> slow.of(what), () -> x.of(what));
        }
    }

    private void askSection() {
        int k = number(0, 12);
        both("section(" + k + ")", () -> slow.section(k), () -> x.section(k));
    }
}
