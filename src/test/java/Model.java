import java.util.ArrayDeque;
import java.util.ArrayList;
import java.util.Arrays;
import java.util.Deque;
import java.util.HashMap;
import java.util.List;
import java.util.Map;

/**
 * The document once more, written in another way than the program and without any thought of room or speed:
 * words are strings of letters, states are copies, and what can be tried out is tried out.
 */
final class Model {
    private static final String LETTERS = "abcdefABCDEF";
    private static final int NO_SUCH = -1, BAD_VALUE = -2, BAD_TEXT = -3, TOO_MANY = -4, NOT_POSSIBLE = -5, NONE = -6;

    private record Held(List<Integer> widths, List<String> ropes) {
    }

    private static final class TooLong extends RuntimeException {
        private static final long serialVersionUID = 1L;
    }

    private List<Integer> widths = new ArrayList<>(List.of(1, 1, 1, 1, 1, 1));
    private List<String> ropes = new ArrayList<>(List.of("", "", "", ""));
    private String pad = "";
    private final Deque<Held> history = new ArrayDeque<>();
    private final Held[] slots = new Held[2];

    int width(int post, int width) {
        if (post < 0 || post > 5) return NO_SUCH;
        if (width < 1 || width > 99) return BAD_VALUE;
        change();
        return widths.set(post, width);
    }

    int cross(int rope, int crossing) {
        if (noRope(rope)) return NO_SUCH;
        if (crossing < 0 || crossing > 11) return BAD_VALUE;
        if (ropes.get(rope).length() == 120) return TOO_MANY;
        change();
        return become(rope, ropes.get(rope) + LETTERS.charAt(crossing));
    }

    int back(int rope, int many) {
        if (noRope(rope)) return NO_SUCH;
        if (many < 1 || many > 120) return BAD_VALUE;
        String word = ropes.get(rope);
        if (word.length() < many) return NOT_POSSIBLE;
        change();
        return become(rope, word.substring(0, word.length() - many));
    }

    int pull(int rope) {
        if (noRope(rope)) return NO_SUCH;
        change();
        int before = ropes.get(rope).length();
        return (before - become(rope, pulled(ropes.get(rope)))) / 2;
    }

    int join(int rope, int other) {
        if (noRope(rope) || noRope(other)) return NO_SUCH;
        String joined = ropes.get(rope) + ropes.get(other);
        if (joined.length() > 120) return TOO_MANY;
        change();
        return become(rope, joined);
    }

    int turn(int rope) {
        if (noRope(rope)) return NO_SUCH;
        change();
        return become(rope, turned(ropes.get(rope)));
    }

    int weave(int rope, int other) {
        if (noRope(rope) || noRope(other) || rope == other) return NO_SUCH;
        String u = ropes.get(rope);
        String v = ropes.get(other);
        String woven = pulled(u + v + turned(u) + turned(v));
        if (woven.length() > 120) return TOO_MANY;
        change();
        return become(rope, woven);
    }

    int swap(int post, int back) {
        if (post < 0 || post > 4) return NO_SUCH;
        if (back < 0 || back > 1) return BAD_VALUE;
        List<String> after = new ArrayList<>();
        for (String word : ropes) after.add(swapped(word, post, back));
        for (String word : after) if (word.length() > 120) return TOO_MANY;
        change();
        ropes = after;
        return all();
    }

    int put(long characters) {
        String text = "";
        int shift = 0;
        while (shift < 64 && (characters >>> shift & 255) != 0) {
            text = (char) (characters >>> shift & 255) + text;
            shift += 8;
        }
        for (; shift < 64; shift += 8) if ((characters >>> shift & 255) != 0) return BAD_VALUE;
        if (text.isEmpty()) return BAD_VALUE;
        for (char c : text.toCharArray()) if (c < 33 || c > 126) return BAD_VALUE;
        if (pad.length() + text.length() > 60) return TOO_MANY;
        pad += text;
        return pad.length();
    }

    int wipe() {
        int length = pad.length();
        pad = "";
        return length;
    }

    int fault() {
        return faultOf(pad);
    }

    int load(int rope) {
        if (noRope(rope)) return NO_SUCH;
        if (fault() != NONE) return BAD_TEXT;
        String word;
        try {
            word = new Reader(pad).whole();
        } catch (TooLong e) {
            return TOO_MANY;
        }
        change();
        pad = "";
        return become(rope, word);
    }

    int crossing(int rope, int place) {
        if (noRope(rope) || place < 0 || place >= ropes.get(rope).length()) return NO_SUCH;
        return LETTERS.indexOf(ropes.get(rope).charAt(place));
    }

    int ofRope(int rope, int what) {
        if (noRope(rope)) return NO_SUCH;
        String word = ropes.get(rope);
        switch (what) {
            case 0: return word.length();
            case 1: return widthsOf(word);
            case 2: return pulled(word).length();
            case 3: return widthsOf(pulled(word));
            case 4: return tight(word).length();
            case 5: return power(word);
            case 6:
                int set = 0;
                for (int post = 0; post < 6; post++) if (!without(tight(word), 63 - (1 << post)).isEmpty()) set += 1 << post;
                return set;
            case 7:
                for (int i = 0; i + 1 < word.length(); i++) if (pulled(word.substring(i, i + 2)).isEmpty()) return i;
                return NONE;
            case 8: return pulled(word).isEmpty() ? 1 : 0;
            default: return BAD_VALUE;
        }
    }

    int winds(int rope, int post) {
        if (noRope(rope) || post < 0 || post > 5) return NO_SUCH;
        int many = 1000;
        for (char c : ropes.get(rope).toCharArray()) {
            if (c == 'a' + post) many++;
            if (c == 'A' + post) many--;
        }
        return many;
    }

    int least(int rope, int place) {
        if (noRope(rope)) return NO_SUCH;
        String form = leastForm(ropes.get(rope));
        return place < 0 || place >= form.length() ? NO_SUCH : LETTERS.indexOf(form.charAt(place));
    }

    int count(int what) {
        if (what < 0 || what > 8) return BAD_VALUE;
        if (what < 6) return widths.get(what);
        return what == 6 ? all() : what == 7 ? pad.length() : history.size();
    }

    int falls(int rope, int posts) {
        if (noRope(rope) || posts < 0 || posts > 63) return NO_SUCH;
        return pulled(without(ropes.get(rope), posts)).isEmpty() ? 1 : 0;
    }

    int felling(int rope, int what) {
        if (noRope(rope)) return NO_SUCH;
        if (what != 0 && what != 1) return BAD_VALUE;
        List<Integer> sets = new ArrayList<>();
        for (int set = 0; set < 64; set++) {
            boolean smallest = falls(rope, set) == 1;
            for (int part = 0; part < set && smallest; part++) {
                if ((part & set) == part && falls(rope, part) == 1) smallest = false;
            }
            if (smallest) sets.add(set);
        }
        if (what == 0) return sets.size();
        sets.sort((x, y) -> Integer.bitCount(x) != Integer.bitCount(y) ? Integer.bitCount(x) - Integer.bitCount(y) : x - y);
        return sets.get(0);
    }

    int both(int rope, int other, int what) {
        if (noRope(rope) || noRope(other)) return NO_SUCH;
        String u = ropes.get(rope);
        String v = ropes.get(other);
        switch (what) {
            case 0: return leastForm(u).equals(leastForm(v)) ? 1 : 0;
            case 1: return leastForm(turned(u)).equals(leastForm(v)) ? 1 : 0;
            case 2: return pulled(u + v + turned(u) + turned(v)).isEmpty() ? 1 : 0;
            case 3: return pulled(u + turned(v)).isEmpty() ? 1 : 0;
            default: return BAD_VALUE;
        }
    }

    int cuts(int rope) {
        return noRope(rope) ? NO_SUCH : cutsOf(ropes.get(rope), new HashMap<>());
    }

    int ifSwapped(int post, int back) {
        if (post < 0 || post > 4) return NO_SUCH;
        if (back < 0 || back > 1) return BAD_VALUE;
        int many = 0;
        for (String word : ropes) many += swapped(word, post, back).length();
        return many;
    }

    int bestSwap(int what) {
        if (what < 0 || what > 2) return BAD_VALUE;
        int[] best = {0, 0, Integer.MAX_VALUE};
        for (int i = 9; i >= 0; i--) {
            int many = ifSwapped(i / 2, i % 2);
            if (many <= best[2]) best = new int[] {i / 2, i % 2, many};
        }
        return best[what];
    }

    int undo() {
        if (history.isEmpty()) return NOT_POSSIBLE;
        hold(history.removeLast());
        return history.size();
    }

    int save(int slot) {
        if (slot < 0 || slot > 1) return BAD_VALUE;
        slots[slot] = held();
        return all();
    }

    int restore(int slot) {
        if (slot < 0 || slot > 1) return BAD_VALUE;
        if (slots[slot] == null) return NOT_POSSIBLE;
        change();
        hold(slots[slot]);
        return all();
    }

    // ---- the words of the document's terms

    static String pulled(String word) {
        String before = null;
        String now = word;
        while (!now.equals(before)) {
            before = now;
            for (int post = 0; post < 6; post++) {
                String left = LETTERS.substring(post, post + 1);
                String right = LETTERS.substring(post + 6, post + 7);
                now = now.replace(left + right, "").replace(right + left, "");
            }
        }
        return now;
    }

    static String turned(String word) {
        StringBuilder turned = new StringBuilder(word).reverse();
        for (int i = 0; i < turned.length(); i++) turned.setCharAt(i, otherSide(turned.charAt(i)));
        return turned.toString();
    }

    static String tight(String word) {
        String tight = pulled(word);
        while (tight.length() >= 2 && tight.charAt(0) == otherSide(tight.charAt(tight.length() - 1))) {
            tight = tight.substring(1, tight.length() - 1);
        }
        return tight;
    }

    static String leastForm(String word) {
        String tight = tight(word);
        // In the numbers' order small letters come first, in the order of Java's texts large ones do.
        String least = null;
        for (int i = 0; i < tight.length(); i++) {
            String turnedRound = flip(tight.substring(i) + tight.substring(0, i));
            if (least == null || turnedRound.compareTo(least) < 0) least = turnedRound;
        }
        return least == null ? "" : flip(least);
    }

    static int power(String word) {
        String form = leastForm(word);
        for (int length = 1; length <= form.length(); length++) {
            String root = form.substring(0, length);
            if (form.replace(root, "").isEmpty()) return form.length() / length;
        }
        return 0;
    }

    static String without(String word, int posts) {
        String left = word;
        for (int post = 0; post < 6; post++) {
            if ((posts & 1 << post) != 0) {
                left = left.replace(LETTERS.substring(post, post + 1), "").replace(LETTERS.substring(post + 6, post + 7), "");
            }
        }
        return left;
    }

    static String swapped(String word, int post, int back) {
        String low = LETTERS.substring(post, post + 1);
        String high = LETTERS.substring(post + 1, post + 2);
        Map<Character, String> becomes = new HashMap<>();
        becomes.put(low.charAt(0), back == 0 ? low + high + turned(low) : high);
        becomes.put(high.charAt(0), back == 0 ? low : turned(high) + low + high);
        becomes.put(turned(low).charAt(0), turned(becomes.get(low.charAt(0))));
        becomes.put(turned(high).charAt(0), turned(becomes.get(high.charAt(0))));
        StringBuilder after = new StringBuilder();
        for (char c : word.toCharArray()) after.append(becomes.getOrDefault(c, "" + c));
        return pulled(after.toString());
    }

    /** By the last crossing: it is cut, or it cancels with one before it. */
    static int cutsOf(String word, Map<String, Integer> known) {
        if (word.isEmpty()) return 0;
        Integer before = known.get(word);
        if (before != null) return before;
        int end = word.length() - 1;
        int least = 1 + cutsOf(word.substring(0, end), known);
        for (int i = 0; i < end; i++) {
            if (word.charAt(i) == otherSide(word.charAt(end))) {
                least = Math.min(least, cutsOf(word.substring(0, i), known) + cutsOf(word.substring(i + 1, end), known));
            }
        }
        known.put(word, least);
        return least;
    }

    // ---- texts: a beginning is good if something can follow that makes it a text

    static int faultOf(String text) {
        for (int i = 0; i < text.length(); i++) {
            if (!canBecomeText(text.substring(0, i + 1))) return i;
        }
        return isText(text) ? NONE : text.length();
    }

    private static boolean canBecomeText(String beginning) {
        List<String> tries = List.of(beginning, beginning + "a");
        for (int closings = 0; closings <= 4; closings++) {
            List<String> longer = new ArrayList<>();
            for (String one : tries) {
                if (isText(one)) return true;
                longer.addAll(Arrays.asList(one + ")", one + "]", one + ",a]"));
            }
            tries = longer;
        }
        return false;
    }

    private static boolean isText(String text) {
        try {
            Reader reader = new Reader(text);
            reader.longest = Integer.MAX_VALUE;
            reader.onlyLooks = true;
            reader.whole();
            return true;
        } catch (IllegalStateException e) {
            return false;
        }
    }

    private static final class Reader {
        private final String text;
        private int at = 0;
        private int longest = 120;
        private boolean onlyLooks = false;

        Reader(String text) {
            this.text = text;
        }

        String whole() {
            String word = text(0);
            if (at < text.length()) throw new IllegalStateException();
            return word;
        }

        private String text(int depth) {
            String word = part(depth);
            while (at < text.length() && ")],".indexOf(text.charAt(at)) < 0) word = fits(word + part(depth));
            return word;
        }

        private String part(int depth) {
            String word = base(depth);
            if (take("'")) word = turned(word);
            if (at < text.length() && text.charAt(at) >= '2' && text.charAt(at) <= '9') {
                word = fits(word.repeat(text.charAt(at) - '0'));
                at++;
            }
            return word;
        }

        private String base(int depth) {
            if (take("(")) {
                String word = inside(depth);
                need(")");
                return word;
            }
            if (take("[")) {
                String u = inside(depth);
                need(",");
                String v = inside(depth);
                need("]");
                return fits(u + v + turned(u) + turned(v));
            }
            if (at < text.length() && LETTERS.indexOf(text.charAt(at)) >= 0) return text.substring(at, ++at);
            throw new IllegalStateException();
        }

        private String inside(int depth) {
            if (depth == 4) throw new IllegalStateException();
            return text(depth + 1);
        }

        private String fits(String word) {
            if (word.length() > longest) throw new TooLong();
            return onlyLooks ? "a" : word;
        }

        private boolean take(String sign) {
            if (!text.startsWith(sign, at)) return false;
            at++;
            return true;
        }

        private void need(String sign) {
            if (!take(sign)) throw new IllegalStateException();
        }
    }

    // ---- the state

    private static boolean noRope(int rope) {
        return rope < 0 || rope > 3;
    }

    private static char otherSide(char c) {
        return Character.isUpperCase(c) ? Character.toLowerCase(c) : Character.toUpperCase(c);
    }

    private static String flip(String word) {
        StringBuilder flipped = new StringBuilder();
        for (char c : word.toCharArray()) flipped.append(otherSide(c));
        return flipped.toString();
    }

    private int widthsOf(String word) {
        int together = 0;
        for (char c : word.toCharArray()) together += widths.get(LETTERS.indexOf(c) % 6);
        return together;
    }

    private int become(int rope, String word) {
        ropes.set(rope, word);
        return word.length();
    }

    private int all() {
        return String.join("", ropes).length();
    }

    private Held held() {
        return new Held(new ArrayList<>(widths), new ArrayList<>(ropes));
    }

    private void hold(Held held) {
        widths = new ArrayList<>(held.widths());
        ropes = new ArrayList<>(held.ropes());
    }

    private void change() {
        history.addLast(held());
        if (history.size() > 6) history.removeFirst();
    }
}
