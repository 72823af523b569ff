/** Counts what is as due and what is not, and helps to lay and read ropes as letters. */
final class Checks {
    private static final String LETTERS = "abcdefABCDEF";

    static int passed = 0;
    static int failed = 0;
    /** What is tested now; it is told ahead of each answer that is not as due. */
    static String about = "";

    private Checks() {
    }

    static void due(String what, long got, long want) {
        if (got == want) {
            passed++;
        } else {
            fail(what + ": answered " + got + ", due is " + want);
        }
    }

    static void due(String what, String got, String want) {
        if (got.equals(want)) {
            passed++;
        } else {
            fail(what + ": answered \"" + got + "\", due is \"" + want + "\"");
        }
    }

    static void holds(String what, boolean holds) {
        due(what, holds ? 1 : 0, 1);
    }

    private static void fail(String what) {
        failed++;
        System.out.println(about + what);
    }

    /** The number that put() takes for one to eight characters. */
    static long number(String characters) {
        long number = 0;
        for (int i = 0; i < characters.length(); i++) {
            number = number << 8 | characters.charAt(i);
        }
        return number;
    }

    static int put(CountedRopes ropes, String text) {
        int answer = text.isEmpty() ? ropes.count(7) : 0;
        for (int i = 0; i < text.length(); i += 8) {
            answer = ropes.put(number(text.substring(i, Math.min(text.length(), i + 8))));
        }
        return answer;
    }

    static int load(CountedRopes ropes, int rope, String text) {
        ropes.wipe();
        put(ropes, text);
        return ropes.load(rope);
    }

    /** A new object with these texts read as its first ropes. */
    static CountedRopes with(String... texts) {
        CountedRopes ropes = new CountedRopes();
        for (int rope = 0; rope < texts.length; rope++) {
            if (!texts[rope].isEmpty()) {
                due("load " + texts[rope], load(ropes, rope, texts[rope]) > 0 ? 1 : 0, 1);
            }
        }
        return ropes;
    }

    static String word(CountedRopes ropes, int rope) {
        return wordFrom(ropes, rope, 0);
    }

    /** A program that never says that there is no such place is stopped behind place 120. */
    private static String wordFrom(CountedRopes ropes, int rope, int from) {
        StringBuilder word = new StringBuilder();
        for (int place = from; place <= 120; place++) {
            int crossing = ropes.crossing(rope, place);
            if (crossing < 0 || crossing >= LETTERS.length()) {
                break;
            }
            word.append(LETTERS.charAt(crossing));
        }
        return word.toString();
    }

    static String least(CountedRopes ropes, int rope) {
        StringBuilder word = new StringBuilder();
        for (int place = 0; place <= 120; place++) {
            int crossing = ropes.least(rope, place);
            if (crossing < 0 || crossing >= LETTERS.length()) {
                break;
            }
            word.append(LETTERS.charAt(crossing));
        }
        return word.toString();
    }

    /** All that a change changes, and the pad's length, so that "changes nothing" can be told; long ropes take many calls. */
    static String state(CountedRopes ropes) {
        StringBuilder state = new StringBuilder(counts(ropes));
        for (int rope = 0; rope < 4; rope++) {
            state.append(word(ropes, rope)).append(' ');
        }
        return state.toString();
    }

    /** As state, in few calls for long ropes too: every eleventh crossing, and all of the last ones. */
    static String outline(CountedRopes ropes) {
        StringBuilder outline = new StringBuilder(counts(ropes));
        for (int rope = 0; rope < 4; rope++) {
            int place = 0;
            while (place < 110 && ropes.crossing(rope, place + 11) >= 0) {
                outline.append(ropes.crossing(rope, place)).append('.');
                place += 11;
            }
            outline.append(place).append(wordFrom(ropes, rope, place)).append(' ');
        }
        return outline.toString();
    }

    /** Widths and ropes alone: what undo brings back. */
    static String widthsAndRopes(CountedRopes ropes) {
        StringBuilder state = new StringBuilder();
        for (int post = 0; post < 6; post++) {
            state.append(ropes.count(post)).append(' ');
        }
        for (int rope = 0; rope < 4; rope++) {
            state.append(word(ropes, rope)).append(' ');
        }
        return state.toString();
    }

    private static String counts(CountedRopes ropes) {
        StringBuilder counts = new StringBuilder();
        for (int what = 0; what <= 8; what++) {
            counts.append(ropes.count(what)).append(' ');
        }
        return counts.toString();
    }

    static String times(String text, int times) {
        return text.repeat(times);
    }
}
