/** The sentences of the document's first section and of its terms. */
final class TermEdges {
    private static final int NO_SUCH = -1, BAD_VALUE = -2, BAD_TEXT = -3, TOO_MANY = -4, NOT_POSSIBLE = -5, NONE = -6;
    private static final String LETTERS = "abcdefABCDEF";

    private TermEdges() {
    }

    static void all() {
        calls();
        errors();
        errorsChangeNothing();
        numbers();
        postsAndRopes();
        crossings();
        turned();
        loops();
        leastForms();
        grammar();
        texts();
        faults();
        sections();
    }

    private static void edge(String words, Runnable test) {
        Edges.edge(Edges.TERMS, words, test);
    }

    private static void due(String what, long got, long want) {
        Checks.due(what, got, want);
    }

    private static void same(String what, String got, String want) {
        Checks.due(what, got, want);
    }

    private static void calls() {
        Edges.edge(Edges.WHAT_IT_IS, "An object is used for at most 512 calls after it has been made", () -> {
            CountedRopes x = new CountedRopes();
            for (int round = 0; round < 128; round++) {
                due("a crossing", x.cross(3, round % 12), 1);
                due("another", x.cross(3, (round + 1) % 12), 2);
                due("one is undone", x.undo(), 1);
                due("both are", x.undo(), 0);
            }
            CountedRopes y = Checks.with("a");
            y.undo();
            for (int round = 0; round < 126; round++) {
                due("a width", y.width(round % 6, 1 + round % 99), round < 6 ? 1 : 1 + (round - 6) % 99);
                due("a saved state", y.save(round % 2), 0);
                due("the pad", y.put('a') + y.wipe(), 1 + 1);
            }
            due("after more than 500 calls", y.count(8), 6);
        });
    }

    private static void errors() {
        edge("A method that fails returns one of the error codes NO_SUCH (-1), BAD_VALUE (-2), BAD_TEXT (-3), TOO_MANY (-4) "
            + "and NOT_POSSIBLE (-5)", () -> {
            CountedRopes x = new CountedRopes();
            due("NO_SUCH", x.pull(4), -1);
            due("BAD_VALUE", x.count(9), -2);
            due("BAD_TEXT", x.load(0), -3);
            due("TOO_MANY", Edges.longRopes().join(0, 1), -4);
            due("NOT_POSSIBLE", x.undo(), -5);
        });
        edge("The constants: NO_SUCH = -1, BAD_VALUE = -2, BAD_TEXT = -3, TOO_MANY = -4, NOT_POSSIBLE = -5, NONE = -6: "
            + "Error codes, and NONE: there is none.", () -> {
            due("NO_SUCH", PostRopes.NO_SUCH, -1);
            due("BAD_VALUE", PostRopes.BAD_VALUE, -2);
            due("BAD_TEXT", PostRopes.BAD_TEXT, -3);
            due("TOO_MANY", PostRopes.TOO_MANY, -4);
            due("NOT_POSSIBLE", PostRopes.NOT_POSSIBLE, -5);
            due("NONE", PostRopes.NONE, -6);
        });
        edge("it names its errors in the order in which they are checked, and the first one that applies is returned", () -> {
            due("width: no post, bad width", Edges.scene().width(6, 0), NO_SUCH);
            due("cross: no rope, bad crossing", Edges.scene().cross(4, 12), NO_SUCH);
            due("cross: bad crossing, no room", Edges.longRopes().cross(0, 12), BAD_VALUE);
            due("back: no rope, bad number", Edges.scene().back(4, 0), NO_SUCH);
            due("back: no rope, not so many", Edges.scene().back(-1, 120), NO_SUCH);
            due("back: bad number, not so many", Edges.scene().back(0, 121), BAD_VALUE);
            due("join: no other rope, no room", Edges.longRopes().join(0, 4), NO_SUCH);
            due("join: no rope", Edges.longRopes().join(-1, 0), NO_SUCH);
            due("weave: both the same, no room", Edges.longRopes().weave(0, 0), NO_SUCH);
            due("weave: no other rope, no room", Edges.longRopes().weave(0, -1), NO_SUCH);
            due("swap: no post, bad back", Edges.scene().swap(5, 2), NO_SUCH);
            due("swap: no post, no room", Edges.longRopes().swap(-1, 0), NO_SUCH);
            due("swap: bad back, no room", Edges.longRopes().swap(0, 2), BAD_VALUE);
            due("put: bad character, no room", Edges.fullPad().put(32), BAD_VALUE);
            due("put: no character, no room", Edges.fullPad().put(0), BAD_VALUE);
            due("load: no rope, bad text", Edges.withPad("a(").load(4), NO_SUCH);
            due("load: no rope, too long a text", Edges.withPad("((a9)9)9").load(4), NO_SUCH);
            due("load: bad text that would be too long", Edges.withPad("((a9)9)9(").load(0), BAD_TEXT);
            due("load: bad text that would be too long", Edges.withPad("((a9)9)9)").load(0), BAD_TEXT);
            due("ofRope: no rope, bad what", Edges.scene().ofRope(4, 9), NO_SUCH);
            due("felling: no rope, bad what", Edges.scene().felling(4, 2), NO_SUCH);
            due("both: no rope, bad what", Edges.scene().both(4, 0, 4), NO_SUCH);
            due("both: no other rope, bad what", Edges.scene().both(0, 4, -1), NO_SUCH);
            due("ifSwapped: no post, bad back", Edges.scene().ifSwapped(5, 2), NO_SUCH);
            due("restore: no slot, nothing saved", new CountedRopes().restore(2), BAD_VALUE);
            due("restore: no slot below, nothing saved", new CountedRopes().restore(-1), BAD_VALUE);
        });
        edge("NONE (-6) is not an error; it is returned only if no error applies.", () -> {
            due("no pair", Edges.scene().ofRope(0, 7), -6);
            due("no fault", Edges.scene().fault(), -6);
            due("no pair, but no rope either", Edges.scene().ofRope(4, 7), NO_SUCH);
            due("no pair, but no rope below either", Edges.scene().ofRope(-1, 7), NO_SUCH);
            due("no pair in an empty rope", new CountedRopes().ofRope(3, 7), NONE);
        });
    }

    private static void errorsChangeNothing() {
        edge("A call that returns an error changes nothing.", () -> {
            Edges.refused(NO_SUCH, x -> x.width(6, 7));
            Edges.refused(BAD_VALUE, x -> x.width(0, 100));
            Edges.refused(NO_SUCH, x -> x.cross(4, 0));
            Edges.refused(BAD_VALUE, x -> x.cross(0, 12));
            Edges.refused(Edges::longRopes, TOO_MANY, x -> x.cross(0, 0));
            Edges.refused(NO_SUCH, x -> x.back(4, 1));
            Edges.refused(BAD_VALUE, x -> x.back(0, 0));
            Edges.refused(NOT_POSSIBLE, x -> x.back(0, 3));
            Edges.refused(NO_SUCH, x -> x.pull(4));
            Edges.refused(NO_SUCH, x -> x.join(4, 0));
            Edges.refused(NO_SUCH, x -> x.join(0, 4));
            Edges.refused(Edges::longRopes, TOO_MANY, x -> x.join(0, 1));
            Edges.refused(Edges::longRopes, TOO_MANY, x -> x.join(1, 1));
            Edges.refused(NO_SUCH, x -> x.turn(4));
            Edges.refused(NO_SUCH, x -> x.weave(4, 0));
            Edges.refused(NO_SUCH, x -> x.weave(0, 4));
            Edges.refused(NO_SUCH, x -> x.weave(0, 0));
            Edges.refused(Edges::longRopes, TOO_MANY, x -> x.weave(0, 1));
            Edges.refused(Edges::longRopes, TOO_MANY, x -> x.weave(2, 0));
            Edges.refused(NO_SUCH, x -> x.swap(5, 0));
            Edges.refused(BAD_VALUE, x -> x.swap(0, 2));
            Edges.refused(Edges::longRopes, TOO_MANY, x -> x.swap(0, 0));
            Edges.refused(Edges::longRopes, TOO_MANY, x -> x.swap(1, 1));
        });
        edge("A call that returns an error changes nothing.", () -> {
            Edges.refused(BAD_VALUE, x -> x.put(0));
            Edges.refused(BAD_VALUE, x -> x.put('a' << 8 | 32));
            Edges.refused(BAD_VALUE, x -> x.put('a' << 16 | 'b'));
            Edges.refused(Edges::fullPad, TOO_MANY, x -> x.put('c'));
            Edges.refused(NO_SUCH, x -> x.load(4));
            Edges.refused(() -> Edges.withPad("abc("), BAD_TEXT, x -> x.load(0));
            Edges.refused(() -> Edges.withPad(""), BAD_TEXT, x -> x.load(0));
            Edges.refused(() -> Edges.withPad("((ab)5(cd)5)6e"), TOO_MANY, x -> x.load(0));
            Edges.refused(NO_SUCH, x -> x.crossing(0, 2));
            Edges.refused(NO_SUCH, x -> x.ofRope(4, 0));
            Edges.refused(BAD_VALUE, x -> x.ofRope(0, 9));
            Edges.refused(NO_SUCH, x -> x.winds(0, 6));
            Edges.refused(NO_SUCH, x -> x.least(0, 2));
            Edges.refused(BAD_VALUE, x -> x.count(9));
            Edges.refused(NO_SUCH, x -> x.falls(0, 64));
            Edges.refused(NO_SUCH, x -> x.felling(4, 0));
            Edges.refused(BAD_VALUE, x -> x.felling(0, 2));
            Edges.refused(NO_SUCH, x -> x.both(0, 4, 0));
            Edges.refused(BAD_VALUE, x -> x.both(0, 1, 4));
            Edges.refused(NO_SUCH, x -> x.cuts(4));
            Edges.refused(NO_SUCH, x -> x.ifSwapped(5, 0));
            Edges.refused(BAD_VALUE, x -> x.ifSwapped(0, 2));
            Edges.refused(BAD_VALUE, x -> x.bestSwap(3));
            Edges.refused(TermEdges::allUndone, NOT_POSSIBLE, CountedRopes::undo);
            Edges.refused(Edges::loose, BAD_VALUE, x -> x.save(-1));
            Edges.refused(BAD_VALUE, x -> x.save(2));
            Edges.refused(BAD_VALUE, x -> x.restore(2));
            Edges.refused(() -> Edges.withPad("a"), NOT_POSSIBLE, x -> x.restore(1));
        });
    }

    private static CountedRopes allUndone() {
        CountedRopes x = Checks.with("abB", "cC");
        x.width(5, 50);
        x.save(1);
        for (int many = 0; many < 6; many++) {
            x.cross(2, many);
        }
        for (int left = 5; left >= 0; left--) {
            due("undone", x.undo(), left);
        }
        Checks.put(x, "aA");
        return x;
    }

    private static void numbers() {
        edge("Everything is numbered from 0.", () -> {
            CountedRopes x = Checks.with("fe");
            due("the first post", x.width(0, 7) + x.count(0), 1 + 7);
            due("the first rope and its first place", x.crossing(0, 0), 5);
            due("the second place", x.crossing(0, 1), 4);
            due("the first place of the least form", x.least(0, 0), 4);
            due("the first slot", x.save(0), 2);
            Checks.put(x, "(");
            due("the second character cannot be missing", x.fault(), 1);
            Checks.put(x, ")");
            due("the second character is wrong", x.fault(), 1);
            x.cross(0, 10);
            due("the first place of a pair", x.ofRope(0, 7), 1);
        });
        edge("Sets of posts are bit masks.", () -> {
            for (int post = 0; post < 6; post++) {
                CountedRopes x = new CountedRopes();
                x.cross(0, post);
                x.cross(1, post + 6);
                due("the posts of a rope", x.ofRope(0, 6), 1 << post);
                due("the posts of a rope to the right", x.ofRope(1, 6), 1 << post);
                due("the posts that fell it", x.felling(0, 1), 1 << post);
                due("pulled out", x.falls(0, 1 << post), 1);
                due("all others pulled out", x.falls(1, 63 - (1 << post)), 0);
            }
        });
    }

    private static void postsAndRopes() {
        edge("There are 6 posts, 0 to 5, each with a width (1 to 99; 1 at first).", () -> {
            CountedRopes x = new CountedRopes();
            for (int post = 0; post < 6; post++) {
                due("1 at first", x.count(post), 1);
                due("99 is a width", x.width(post, 99), 1);
                due("100 is none", x.width(post, 100), BAD_VALUE);
                due("1 is a width", x.width(post, 1), 99);
                due("0 is none", x.width(post, 0), BAD_VALUE);
                due("rope and post", x.winds(0, post), 1000);
            }
            due("no seventh post", x.width(6, 1), NO_SUCH);
            due("none to wind round", x.winds(0, 6), NO_SUCH);
            due("none below 0", x.width(-1, 1), NO_SUCH);
            due("none below 0 to wind round", x.winds(0, -1), NO_SUCH);
        });
        edge("There are 4 ropes, 0 to 3.", () -> {
            CountedRopes x = new CountedRopes();
            for (int rope = 0; rope < 4; rope++) {
                due("a rope", x.cross(rope, rope), 1);
            }
            for (int rope = 0; rope < 4; rope++) {
                due("each is its own", x.crossing(rope, 0), rope);
            }
            for (int rope : Edges.NO_ROPES) {
                due("no rope", x.cross(rope, 0), NO_SUCH);
            }
            due("four crossings in all", x.count(6), 4);
        });
        edge("A rope is a word of at most 120 crossings (none at first).", () -> {
            CountedRopes x = new CountedRopes();
            due("none at first", x.ofRope(0, 0) + x.ofRope(1, 0) + x.ofRope(2, 0) + x.ofRope(3, 0), 0);
            for (int length = 1; length <= 120; length++) {
                due("up to 120 by cross", x.cross(0, 0), length);
            }
            due("no more by cross", x.cross(0, 0), TOO_MANY);
            due("by load", Checks.load(x, 1, "((ab)5)6"), 60);
            due("120 by join", x.join(1, 1), 120);
            due("no more by join", x.join(1, 0), TOO_MANY);
            due("120 by load", Checks.load(x, 2, "((ab)5(cd)5)6"), 120);
            due("no more by load", Checks.load(x, 2, "((ab)5(cd)5)6e"), TOO_MANY);
            due("no more by weave", x.weave(2, 0), TOO_MANY);
            due("no more by swap", x.swap(0, 0), TOO_MANY);
            due("480 in all at most", x.count(6), 360);
        });
    }

    private static void crossings() {
        edge("A crossing is at a post, to the left or to the right; it is written as a letter: "
            + "a to f to the left at the posts 0 to 5, A to F to the right.", () -> {
            CountedRopes x = Checks.with("abcdef", "ABCDEF");
            for (int post = 0; post < 6; post++) {
                due("to the left", x.crossing(0, post), post);
                due("to the right", x.crossing(1, post), post + 6);
            }
            due("g is none", Checks.load(x, 2, "g"), BAD_TEXT);
            due("G is none", Checks.load(x, 2, "G"), BAD_TEXT);
            due("the sign before a is none", Checks.load(x, 2, "`"), BAD_TEXT);
            due("the sign before A is none", Checks.load(x, 2, "@"), BAD_TEXT);
        });
        edge("As a number it is the post for the left, the post plus 6 for the right.", () -> {
            CountedRopes x = new CountedRopes();
            for (int post = 0; post < 6; post++) {
                x.cross(0, post);
                due("to the left it winds round once", x.winds(0, post), 1001);
                x.cross(0, post + 6);
                due("to the right it winds back", x.winds(0, post), 1000);
            }
            same("its letters", Checks.word(x, 0), "aAbBcCdDeEfF");
        });
        edge("Two crossings side by side cancel if they are at the same post, one to the left and one to the right.", () -> {
            for (int one = 0; one < 12; one++) {
                CountedRopes x = new CountedRopes();
                for (int two = 0; two < 12; two++) {
                    x.cross(0, one);
                    x.cross(0, two);
                    due("pairs in " + LETTERS.charAt(one) + LETTERS.charAt(two), x.pull(0), Math.abs(one - two) == 6 ? 1 : 0);
                    x.undo();
                    x.undo();
                    x.undo();
                }
            }
            due("not side by side", Checks.with("abA").pull(0), 0);
        });
        edge("To pull a rope means to take such pairs out of it, until there is none "
            + "(the word that is left does not depend on the order).", () -> {
            CountedRopes x = Checks.with("abcCBA", "abBbA", "aAaAa", "cabBAd");
            due("pairs that come together later", x.pull(0), 3);
            due("pairs that overlap", x.pull(1), 1);
            due("the left pairs or the right ones", x.pull(2), 2);
            due("in the middle", x.pull(3), 2);
            same("what is left", Checks.widthsAndRopes(x), "1 1 1 1 1 1  abA a cd ");
        });
        edge("A rope falls if nothing is left of it when it is pulled.", () -> {
            CountedRopes x = Checks.with("abBA", "abA", "aAb");
            due("nothing is left", x.ofRope(0, 8), 1);
            due("one is left", x.ofRope(1, 8), 0);
            due("one is left behind a pair", x.ofRope(2, 8), 0);
            due("an empty rope", x.ofRope(3, 8), 1);
        });
    }

    private static void turned() {
        edge("The turned word of a word has its crossings from the last to the first, each to the other side.", () -> {
            CountedRopes x = Checks.with("abcdef", "aBBc", "F");
            due("three", x.turn(0) * 100 + x.turn(1) * 10 + x.turn(2), 641);
            same("even, odd, one", Checks.widthsAndRopes(x), "1 1 1 1 1 1 FEDCBA CbbA f  ");
            due("an empty word", x.turn(3), 0);
            x.turn(0);
            same("turned twice", Checks.word(x, 0), "abcdef");
            due("a rope behind its turned one falls", Checks.with("aBcab(aBcab)'").ofRope(0, 8), 1);
        });
    }

    private static void loops() {
        edge("The tight loop of a rope is its word when it is pulled, and then, as long as its first and its last crossing "
            + "(two at least) cancel, both are taken off.", () -> {
            CountedRopes x = Checks.with("abcBA", "abCcdDA", "aabA", "fcabaCF");
            due("until one is left", x.ofRope(0, 4), 1);
            same("the one", Checks.least(x, 0), "c");
            due("only when it is pulled", x.ofRope(1, 4), 1);
            same("the other one", Checks.least(x, 1), "b");
            due("as far as it goes", x.ofRope(2, 4), 2);
            same("two", Checks.least(x, 2), "ab");
            due("the same on both sides does not cancel", x.ofRope(3, 4), 3);
            same("three", Checks.least(x, 3), "aab");
            CountedRopes y = Checks.with("a", "aAbB", "F");
            due("one crossing alone stays", y.ofRope(0, 4), 1);
            due("nothing is left", y.ofRope(1, 4), 0);
            due("one to the right stays", y.ofRope(2, 4), 1);
            due("an empty rope", y.ofRope(3, 4), 0);
            CountedRopes z = Checks.with("a9a9a9a9a9a9a5bA9A9A9A9A9A9A5", "((ab)9)3(ab)2Ac((ab)'9)3(ab)'2");
            due("119 crossings, one of them tight", z.ofRope(0, 0) * 10 + z.ofRope(0, 4), 1191);
            due("118 crossings, two of them tight", z.ofRope(1, 0) * 10 + z.ofRope(1, 4), 1182);
        });
    }

    private static void leastForms() {
        edge("The least form of a rope is the least of all words that come of its tight loop by taking crossings from the beginning "
            + "and putting them at the end, in this order", () -> {
            for (String loop : new String[] {"abcdef", "bcdefa", "cdefab", "defabc", "efabcd", "fabcde"}) {
                same("wherever it begins: " + loop, Checks.least(Checks.with(loop), 0), "abcdef");
            }
            same("the order stays", Checks.least(Checks.with("fedcba"), 0), "afedcb");
            same("of the tight loop", Checks.least(Checks.with("ecbaE"), 0), "acb");
            same("one crossing", Checks.least(Checks.with("F"), 0), "F");
            same("none", Checks.least(new CountedRopes(), 0), "");
        });
        edge("words are compared by the numbers of their first crossings, then of the second ones, and so on.", () -> {
            same("left ahead of right, whatever the post", Checks.least(Checks.with("Af"), 0), "fA");
            same("the lower post", Checks.least(Checks.with("Fe"), 0), "eF");
            same("the lower post to the right", Checks.least(Checks.with("BA"), 0), "AB");
            same("by the second ones", Checks.least(Checks.with("abac"), 0), "abac");
            same("by the second ones later", Checks.least(Checks.with("acab"), 0), "abac");
            same("by the third ones", Checks.least(Checks.with("abdabc"), 0), "abcabd");
            same("by the last two", Checks.least(Checks.with("aba"), 0), "aab");
            same("to the right last of all", Checks.least(Checks.with("aFae"), 0), "aeaF");
        });
        edge("Two ropes are alike if their least forms are the same word.", () -> {
            CountedRopes x = Checks.with("abc", "dbcaD", "acb");
            due("alike", x.both(0, 1, 0), 1);
            due("not alike", x.both(0, 2, 0), 0);
            due("an empty one", x.both(0, 3, 0), 0);
            due("two empty ones", x.both(3, 3, 0), 1);
            due("a beginning of the other", Checks.with("ab", "abab").both(0, 1, 0), 0);
            due("the same but for the last", Checks.with("aab", "aac").both(0, 1, 0), 0);
        });
        edge("The root of a rope whose tight loop is not empty is the shortest word whose repetition is the least form; "
            + "its power is how often it is repeated.", () -> {
            due("once", Checks.with("ab").ofRope(0, 5), 1);
            due("one crossing", Checks.with("a").ofRope(0, 5), 1);
            due("one crossing 120 times", Checks.with("((a5)4)6").ofRope(0, 5), 120);
            due("the shortest of several", Checks.with("(ab)6").ofRope(0, 5), 6);
            due("six crossings, not all alike", Checks.with("aabaab").ofRope(0, 5), 2);
            due("almost", Checks.with("ababa").ofRope(0, 5), 1);
            due("almost, the length divides", Checks.with("ababac").ofRope(0, 5), 1);
            due("the tight loop's", Checks.with("c(ab)3C").ofRope(0, 5), 3);
            due("two of 60", Checks.with("(a(bc)9b(ac)9(bd)9(cd)2)2").ofRope(0, 5), 2);
            due("of an empty loop there is none", Checks.with("abBA").ofRope(0, 5), 0);
        });
    }

    private static void faultDue(String text, int want) {
        due("the fault of " + text, Edges.withPad(text).fault(), want);
    }

    private static void wordDue(String text, String want) {
        CountedRopes x = new CountedRopes();
        Checks.put(x, text);
        due("the length of " + text, x.load(0), want.length());
        same("the word of " + text, Checks.word(x, 0), want);
    }

    private static void grammar() {
        edge("text = part { part }", () -> {
            wordDue("a", "a");
            wordDue("abA", "abA");
            wordDue("(abA)", "abA");
            faultDue("()", 1);
            faultDue("[,a]", 1);
            faultDue("[a,]", 3);
        });
        edge("part = base [ \"'\" ] [ times ]", () -> {
            wordDue("a'", "A");
            wordDue("a2", "aa");
            wordDue("a'2", "AA");
            faultDue("a2'", 2);
            faultDue("a''", 2);
            faultDue("a22", 2);
            faultDue("a'2'", 3);
            faultDue("a'22", 3);
            faultDue("'a", 0);
            faultDue("2a", 0);
            faultDue("('a)", 1);
            faultDue("(2a)", 1);
            faultDue("[2a,b]", 1);
            faultDue("[a,'b]", 3);
        });
        edge("base = letter | \"(\" text \")\" | \"[\" text \",\" text \"]\"", () -> {
            wordDue("a(b)[c,d]", "abcdCD");
            faultDue("(a]", 2);
            faultDue("[a,b)", 4);
            faultDue("[a)", 2);
            faultDue("[a]", 2);
            faultDue("(a,b)", 2);
            faultDue("[(a,b)]", 3);
            faultDue("[a,b,c]", 4);
            faultDue("a,b", 1);
            faultDue("a)", 1);
            faultDue("a]", 1);
            faultDue("{a}", 0);
        });
    }

    private static void texts() {
        edge("The pad is a text of at most 60 characters:", () -> {
            due("60 characters", Edges.fullPad().count(7), 60);
            due("61 are too many", Edges.fullPad().put('a'), TOO_MANY);
            due("60 are read", Edges.fullPad().load(0), 53);
            due("the last one counts", Edges.withPad(Checks.times("a", 59) + "'").load(0), 59);
        });
        edge("A letter is a crossing, times is a digit from 2 to 9.", () -> {
            for (int times = 2; times <= 9; times++) {
                wordDue("a" + times, Checks.times("a", times));
            }
            faultDue("a1", 1);
            faultDue("a0", 1);
            faultDue("a:", 1);
            faultDue("a/", 1);
            faultDue("a20", 2);
        });
        edge("A text is the words of its parts, one behind the other; \"'\" turns the word of the base, "
            + "times repeats it (after it is turned).", () -> {
            wordDue("bca", "bca");
            wordDue("ab'", "aB");
            wordDue("ab2", "abb");
            wordDue("(ab)'", "BA");
            wordDue("(ab)2", "abab");
            wordDue("c(ab)'2d", "cBABAd");
            wordDue("((aab)'c2)'", "CCaab");
            wordDue("((ab)2c')3", "ababCababCababC");
            wordDue("aA", "aA");
        });
        edge("The word of \"[\" u \",\" v \"]\" is u, v, u turned, v turned.", () -> {
            wordDue("[a,b]", "abAB");
            wordDue("[ab,cde]", "abcdeBAEDC");
            wordDue("[a,a]", "aaAA");
            wordDue("[[a,b],c]", "abABcbaBAC");
            wordDue("[a,[b,c]]", "abcBCAcbCB");
            wordDue("e[a2,B']'2f", "ebaaBAAbaaBAAf");
        });
        edge("Parentheses and brackets together are at most 4 deep.", () -> {
            wordDue("((((a))))", "a");
            faultDue("(((((a)))))", 4);
            faultDue("[[[[a,b],c],d],e]", NONE);
            faultDue("[[[[[a,b],c],d],e],f]", 4);
            faultDue("[a,[b,[c,[d,e]]]]", NONE);
            faultDue("[a,[b,[c,[d,[e,f]]]]]", 12);
            faultDue("([([a,b]),c])", NONE);
            faultDue("([([a,(b)]),c])", 6);
            faultDue("([(a[b,c]),d])", NONE);
            faultDue("([(a[b,(c)]),d])", 7);
            faultDue("((((a))))((((b))))", NONE);
            faultDue("((((a))((b))))", NONE);
            faultDue("((((a))(((b)))))", 9);
        });
    }

    private static void faults() {
        edge("The fault is the index of the first character that cannot stand at its place when the text is read from left to right", () -> {
            faultDue(")", 0);
            faultDue("!", 0);
            faultDue("abc~", 3);
            faultDue("ab)(", 2);
            faultDue("a''g", 2);
            faultDue("(ab))", 4);
            faultDue("((a)", 4);
            faultDue(Checks.times("a", 59) + "g", 59);
            faultDue(Checks.times("a", 57) + "(''", 58);
        });
        edge("if there is none and the text ends too early (also if it is empty), it is the length of the text.", () -> {
            faultDue("", 0);
            faultDue("(", 1);
            faultDue("(a", 2);
            faultDue("[", 1);
            faultDue("[a", 2);
            faultDue("[a,", 3);
            faultDue("[a,b", 4);
            faultDue("ab(cd", 5);
            faultDue("[a,b](", 6);
            faultDue("((((a)))", 8);
            faultDue(Checks.times("a", 59) + "(", 60);
            faultDue("[" + Checks.times("a", 59), 60);
        });
    }

    private static void sections() {
        edge("Ahead of the calls falls, felling, both, cuts, ifSwapped, bestSwap the interface says: ---- what if; nothing changes.", () -> {
            Edges.onlyAsks(x -> x.falls(0, 3));
            Edges.onlyAsks(x -> x.felling(0, 1));
            Edges.onlyAsks(x -> x.both(0, 2, 2));
            Edges.onlyAsks(x -> x.cuts(2));
            Edges.onlyAsks(x -> x.ifSwapped(0, 0));
            Edges.onlyAsks(x -> x.bestSwap(2));
        });
        edge("Ahead of the calls crossing, ofRope, winds, least, count the interface says: ---- what there is.", () -> {
            Edges.onlyAsks(x -> x.crossing(0, 1));
            for (int what = 0; what <= 8; what++) {
                int asked = what;
                Edges.onlyAsks(x -> x.ofRope(1, asked));
                Edges.onlyAsks(x -> x.count(asked));
            }
            Edges.onlyAsks(x -> x.winds(0, 1));
            Edges.onlyAsks(x -> x.least(0, 0));
        });
    }
}
