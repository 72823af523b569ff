import java.util.ArrayList;
import java.util.List;
import java.util.Map;
import java.util.TreeMap;
import java.util.function.Supplier;

/** Runs one test for each sentence of the document that names a boundary, and keeps the words that were tested. */
final class Edges {
    static final int NO_SUCH = -1, BAD_VALUE = -2, BAD_TEXT = -3, TOO_MANY = -4, NOT_POSSIBLE = -5, NONE = -6;
    static final int[] NO_ROPES = {-1, 4, 5, 256, Integer.MIN_VALUE, Integer.MAX_VALUE};
    static final int[] NO_POSTS = {-1, 6, 7, 256, Integer.MIN_VALUE, Integer.MAX_VALUE};
    static final int[] NO_SWAPS = {-1, 5, 6, 256, Integer.MIN_VALUE, Integer.MAX_VALUE};
    static final int[] NEITHER_0_NOR_1 = {-1, 2, 3, 256, Integer.MIN_VALUE, Integer.MAX_VALUE};
    /** Sections of the document; a promise is its number. */
    static final int WHAT_IT_IS = -1, TERMS = 0;

    private static final Map<Integer, List<String>> QUOTED = new TreeMap<>();

    interface Call {
        int on(CountedRopes ropes);
    }

    private Edges() {
    }

    static void all() {
        TermEdges.all();
        RopeEdges.all();
        TextEdges.all();
        AskEdges.all();
        UndoEdges.all();
    }

    /** The words stand in that section of the document; the test fails if they are broken. */
    static void edge(int section, String words, Runnable test) {
        QUOTED.computeIfAbsent(section, any -> new ArrayList<>()).add(words);
        int before = Checks.passed + Checks.failed;
        Checks.about = nameOf(section) + ", \"" + words + "\": ";
        test.run();
        Checks.holds("it is tested", Checks.passed + Checks.failed > before);
        Checks.about = "";
    }

    static List<String> quoted(int section) {
        return QUOTED.getOrDefault(section, List.of());
    }

    static String nameOf(int section) {
        return section == WHAT_IT_IS ? "What it is" : section == TERMS ? "Terms" : "Promise " + section;
    }

    // ---- objects to be tested on

    /** Six changes to undo, both slots saved, four ropes and widths that differ, and a text in the pad. */
    static CountedRopes scene() {
        CountedRopes x = Checks.with("ab", "cC", "dEd");
        x.save(0);
        x.width(5, 50);
        x.cross(3, 11);
        x.save(1);
        x.width(0, 99);
        x.turn(2);
        x.cross(1, 6);
        Checks.put(x, "ab'");
        return x;
    }

    /** As the scene, but each rope has a pair that cancels, and at its end. */
    static CountedRopes loose() {
        CountedRopes x = Checks.with("abB", "fFcC", "dEdD");
        x.save(0);
        x.width(5, 50);
        x.cross(3, 0);
        x.save(1);
        x.cross(3, 11);
        x.cross(3, 5);
        Checks.put(x, "aA");
        return x;
    }

    /** The ropes 0 and 1 have 120 and 61 crossings; most calls would make them longer than 120. */
    static CountedRopes longRopes() {
        CountedRopes x = Checks.with("((ab)5(cd)5)6", "((ac)5)6a", "ef");
        x.width(2, 22);
        x.save(0);
        return x;
    }

    static CountedRopes withPad(String text) {
        CountedRopes x = Checks.with("ab", "c");
        Checks.put(x, text);
        return x;
    }

    static CountedRopes fullPad() {
        return withPad("((ab)'2[c,d])(eF)" + Checks.times("b", 43));
    }

    // ---- what is asked of many calls

    /** All that can be told of an object; it is of no use afterwards. */
    static String whole(CountedRopes x) {
        StringBuilder whole = new StringBuilder(Checks.outline(x));
        for (int many = 0; many <= 6; many++) {
            whole.append(" | ").append(x.undo()).append(": ").append(Checks.outline(x));
        }
        for (int slot = 0; slot < 2; slot++) {
            whole.append(" | ").append(x.restore(slot)).append(": ").append(Checks.outline(x));
        }
        whole.append(" | ").append(x.fault());
        int loaded = x.load(3);
        if (loaded == BAD_TEXT) {
            Checks.put(x, "a)");
            loaded = x.load(3);
        }
        return whole.append(" | ").append(loaded).append(Checks.word(x, 3)).toString();
    }

    static void refused(Supplier<CountedRopes> scene, int want, Call call) {
        CountedRopes x = scene.get();
        Checks.due("the refused call", call.on(x), want);
        Checks.due("an error changes nothing", whole(x), whole(scene.get()));
    }

    static void refused(int want, Call call) {
        refused(Edges::scene, want, call);
    }

    /** A call that answers a number and changes nothing at all. */
    static void onlyAsks(Call call) {
        onlyAsks(Edges::scene, call);
        onlyAsks(Edges::loose, call);
    }

    private static void onlyAsks(Supplier<CountedRopes> scene, Call call) {
        CountedRopes x = scene.get();
        int answer = call.on(x);
        Checks.holds("it is no error: " + answer, answer >= 0 || answer == NONE);
        Checks.due("nothing changes", whole(x), whole(scene.get()));
    }

    /** A change records one state, and undo brings just that one back. */
    static void change(Call call) {
        CountedRopes x = scene();
        Checks.due("four are left to undo", x.undo() + x.undo(), 5 + 4);
        String before = Checks.widthsAndRopes(x);
        int answer = call.on(x);
        Checks.holds("it is no error: " + answer, answer >= 0);
        Checks.due("one more can be undone", x.count(8), 5);
        Checks.due("it is undone", x.undo(), 4);
        Checks.due("all is as before", Checks.widthsAndRopes(x), before);
        CountedRopes fresh = new CountedRopes();
        Checks.put(fresh, "a");
        fresh.save(0);
        if (call.on(fresh) >= 0) {
            Checks.due("the first change is recorded too", fresh.count(8), 1);
        }
    }

    static void eachNoSuch(int[] wrong, IntCall call) {
        for (int value : wrong) {
            Checks.due("with " + value, call.on(scene(), value), NO_SUCH);
        }
    }

    static void eachBadValue(int[] wrong, IntCall call) {
        for (int value : wrong) {
            Checks.due("with " + value, call.on(scene(), value), BAD_VALUE);
        }
    }

    interface IntCall {
        int on(CountedRopes ropes, int value);
    }
}
