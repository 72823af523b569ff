/** Counts what is as due and what is not, and helps to lay and read ropes as letters. */
final class Checks {
    private static final String LETTERS = "abcdefABCDEF";

    static int passed = 0;
    static int failed = 0;

    private Checks() {
    }

    static void due(String what, long got, long want) {
        if (got == want) {
            passed++;
        } else {
            failed++;
            System.out.println(what + ": answered " + got + ", due is " + want);
        }
    }

    static void due(String what, String got, String want) {
        if (got.equals(want)) {
            passed++;
        } else {
            failed++;
            System.out.println(what + ": answered \"" + got + "\", due is \"" + want + "\"");
        }
    }

    static void holds(String what, boolean holds) {
        due(what, holds ? 1 : 0, 1);
    }

    /** The number that put() takes for one to eight characters. */
    static long number(String characters) {
        long number = 0;
        for (int i = 0; i < characters.length(); i++) {
            number = number << 8 | characters.charAt(i);
        }
        return number;
    }

    static int put(PostRopes ropes, String text) {
        int answer = ropes.count(7);
        for (int i = 0; i < text.length(); i += 8) {
            answer = ropes.put(number(text.substring(i, Math.min(text.length(), i + 8))));
        }
        return answer;
    }

    static int load(PostRopes ropes, int rope, String text) {
        ropes.wipe();
        put(ropes, text);
        return ropes.load(rope);
    }

    /** A new object with these texts read as its first ropes. */
    static PostRopes with(String... texts) {
        PostRopes ropes = new PostRopes();
        for (int rope = 0; rope < texts.length; rope++) {
            if (!texts[rope].isEmpty()) {
                due("load " + texts[rope], load(ropes, rope, texts[rope]) > 0 ? 1 : 0, 1);
            }
        }
        return ropes;
    }

    static String word(PostRopes ropes, int rope) {
        StringBuilder word = new StringBuilder();
        for (int place = 0; ropes.crossing(rope, place) >= 0; place++) {
            word.append(LETTERS.charAt(ropes.crossing(rope, place)));
        }
        return word.toString();
    }

    static String least(PostRopes ropes, int rope) {
        StringBuilder word = new StringBuilder();
        for (int place = 0; ropes.least(rope, place) >= 0; place++) {
            word.append(LETTERS.charAt(ropes.least(rope, place)));
        }
        return word.toString();
    }

    /** All that a change changes, and the pad's length, so that "changes nothing" can be told. */
    static String state(PostRopes ropes) {
        StringBuilder state = new StringBuilder();
        for (int what = 0; what <= 8; what++) {
            state.append(ropes.count(what)).append(' ');
        }
        for (int rope = 0; rope < 4; rope++) {
            state.append(word(ropes, rope)).append(' ');
        }
        return state.toString();
    }

    static String times(String text, int times) {
        return text.repeat(times);
    }
}
