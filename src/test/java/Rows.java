/** Makes objects to test, and tells as a text what they hold. */
final class Rows {
    static final int LOW = Integer.MIN_VALUE;
    static final int HIGH = Integer.MAX_VALUE;
    static final int VIEWS = 5;
    static final int FORMS = 4;

    private Rows() {
    }

    /** An object with notes told as pitch, length, pitch, length, .. */
    static FormFinds with(int... pitchesAndLengths) {
        FormFinds x = new FormFinds();
        for (int i = 0; i + 1 < pitchesAndLengths.length; i += 2) {
            x.note(pitchesAndLengths[i], pitchesAndLengths[i + 1]);
        }
        return x;
    }

    /** An object with notes of length 1. */
    static FormFinds pitches(int... pitches) {
        FormFinds x = new FormFinds();
        for (int pitch : pitches) {
            x.note(pitch, 1);
        }
        return x;
    }

    /** An object with a note of length 1 for each letter, a being 0. */
    static FormFinds letters(String letters) {
        FormFinds x = new FormFinds();
        for (char letter : letters.toCharArray()) {
            x.note(letter - 'a', 1);
        }
        return x;
    }

    /** An object with so many notes, all alike. */
    static FormFinds alike(int count) {
        FormFinds x = new FormFinds();
        for (int i = 0; i < count; i++) {
            x.note(64, 1);
        }
        return x;
    }

    static FormFinds full() {
        return alike(60);
    }

    /** An object with 60 notes, the lowest and the highest by turns. */
    static FormFinds zigzag() {
        FormFinds x = new FormFinds();
        for (int i = 0; i < 60; i++) {
            x.note(i % 2 == 0 ? 0 : 127, 1);
        }
        return x;
    }

    static String items(FormFinds x, int view) {
        StringBuilder text = new StringBuilder();
        for (int i = 0; i < x.items(view); i++) {
            text.append(x.item(view, i)).append(' ');
        }
        return text.toString();
    }

    /** The repeats found last: (i,j,m) for each. */
    static String repeats(FormFinds x) {
        StringBuilder text = new StringBuilder();
        for (int k = 0; k < x.of(4); k++) {
            text.append('(').append(x.repeat(k, 0)).append(',').append(x.repeat(k, 1)).append(',')
                .append(x.repeat(k, 2)).append(')');
        }
        return text.toString();
    }

    static String found(FormFinds x) {
        StringBuilder text = new StringBuilder();
        for (int k = 0; x.found(k) != FormFinds.NONE; k++) {
            text.append(x.found(k)).append(' ');
        }
        return text.toString();
    }

    static String sections(FormFinds x) {
        StringBuilder text = new StringBuilder();
        for (int k = 0; x.section(k) != FormFinds.NONE; k++) {
            text.append(x.section(k)).append(' ');
        }
        return text.append("cost ").append(x.of(2)).toString();
    }

    static String form(FormFinds x, int form) {
        StringBuilder text = new StringBuilder();
        for (int i = 0; i < x.of(1); i++) {
            text.append(x.form(form, i, 0)).append('/').append(x.form(form, i, 1)).append(' ');
        }
        return text.toString();
    }

    static String answer(FormFinds x, int key, int head) {
        StringBuilder text = new StringBuilder();
        for (int i = 0; i < x.of(1); i++) {
            text.append(x.answer(key, head, i)).append(' ');
        }
        return text.toString();
    }

    /** What was found and parted last. */
    static String results(FormFinds x) {
        return repeats(x) + "; " + found(x) + "; " + sections(x);
    }

    /** All that an object can tell of itself without looking for anything anew. */
    static String all(FormFinds x) {
        return items(x, 4) + "; " + form(x, 0) + "; " + results(x);
    }
}
