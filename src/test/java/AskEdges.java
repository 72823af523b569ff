/** The sentences of promises 14 to 24: what there is, and what if. */
final class AskEdges {
    private static final int NO_SUCH = -1, BAD_VALUE = -2, TOO_MANY = -4, NONE = -6;
    /** 120 crossings in few characters. */
    private static final String FULL = "((ab)5(cd)5)6";

    private AskEdges() {
    }

    static void all() {
        crossing();
        ofRopeAsItIs();
        ofRopePulled();
        ofRopeLoop();
        ofRopeRefused();
        winds();
        least();
        count();
        falls();
        felling();
        fellingAnswers();
        bothAlike();
        bothSame();
        cuts();
        ifSwapped();
        bestSwap();
    }

    private static void due(String what, long got, long want) {
        Checks.due(what, got, want);
    }

    private static void same(String what, String got, String want) {
        Checks.due(what, got, want);
    }

    private static void crossing() {
        Edges.edge(14, "Returns a crossing of a rope.", () -> {
            CountedRopes x = Checks.with("aAb", "c");
            due("not pulled", x.crossing(0, 1), 6);
            due("of this rope", x.crossing(1, 0), 2);
        });
        Edges.edge(14, "Returns the crossing, 0 to 11", () -> {
            CountedRopes x = Checks.with("aFfA", FULL);
            due("0", x.crossing(0, 0), 0);
            due("11", x.crossing(0, 1), 11);
            due("5", x.crossing(0, 2), 5);
            due("6", x.crossing(0, 3), 6);
            due("the last of 120", x.crossing(1, 119), 3);
        });
        Edges.edge(14, "NO_SUCH if there is no such rope or place.", () -> {
            Edges.eachNoSuch(Edges.NO_ROPES, (x, rope) -> x.crossing(rope, 0));
            int[] wrong = {-1, 2, 3, 120, 256, 65536, Integer.MIN_VALUE, Integer.MAX_VALUE};
            Edges.eachNoSuch(wrong, (x, place) -> x.crossing(0, place));
            CountedRopes x = Checks.with(FULL);
            due("place 120 of 120", x.crossing(0, 120), NO_SUCH);
            due("place 0 of an empty rope", x.crossing(1, 0), NO_SUCH);
            x.back(0, 1);
            due("one that was taken", x.crossing(0, 119), NO_SUCH);
            due("the last that is left", x.crossing(0, 118), 2);
        });
    }

    private static void ofRopeDue(int what, String text, int want) {
        for (int rope = 0; rope < 4; rope += 3) {
            CountedRopes x = new CountedRopes();
            if (!text.isEmpty()) {
                Checks.load(x, rope, text);
            }
            x.width(0, 10);
            x.width(5, 99);
            due(what + " of " + text, x.ofRope(rope, what), want);
        }
    }

    private static void ofRopeAsItIs() {
        Edges.edge(15, "Returns a number about a rope.", () -> {
            CountedRopes x = Checks.with("ab", "c");
            due("of one", x.ofRope(0, 0), 2);
            due("of another", x.ofRope(1, 0), 1);
        });
        Edges.edge(15, "0 its crossings", () -> {
            ofRopeDue(0, "", 0);
            ofRopeDue(0, "aAb", 3);
            ofRopeDue(0, FULL, 120);
        });
        Edges.edge(15, "1 the widths of the posts of all its crossings together", () -> {
            ofRopeDue(1, "", 0);
            ofRopeDue(1, "aAb", 21);
            ofRopeDue(1, "fF", 198);
            ofRopeDue(1, "((f5)4)6", 120 * 99);
        });
        Edges.edge(15, "7 the first place at which two crossings cancel (that of the first of both; NONE)", () -> {
            ofRopeDue(7, "", NONE);
            ofRopeDue(7, "a", NONE);
            ofRopeDue(7, "aA", 0);
            ofRopeDue(7, "Aa", 0);
            ofRopeDue(7, "abA", NONE);
            ofRopeDue(7, "abcCBA", 2);
            ofRopeDue(7, "aAbB", 0);
            ofRopeDue(7, "abbB", 2);
            ofRopeDue(7, "((ab)5(cd)5)5(ab)9aA", 118);
            ofRopeDue(7, FULL, NONE);
        });
        Edges.edge(15, "8 whether it falls (1 or 0)", () -> {
            ofRopeDue(8, "", 1);
            ofRopeDue(8, "a", 0);
            ofRopeDue(8, "abBA", 1);
            ofRopeDue(8, "abAB", 0);
            ofRopeDue(8, "((aA)5(bB)5)6", 1);
            ofRopeDue(8, "((aA)5(bB)5)5b", 0);
        });
    }

    private static void ofRopePulled() {
        Edges.edge(15, "2 its crossings when it is pulled", () -> {
            ofRopeDue(2, "", 0);
            ofRopeDue(2, "aAb", 1);
            ofRopeDue(2, "abBA", 0);
            ofRopeDue(2, "abA", 3);
            ofRopeDue(2, FULL, 120);
        });
        Edges.edge(15, "3 the widths of these together", () -> {
            ofRopeDue(3, "", 0);
            ofRopeDue(3, "aAb", 1);
            ofRopeDue(3, "fbBF", 0);
            ofRopeDue(3, "abA", 21);
            ofRopeDue(3, "aFbBc", 110);
            ofRopeDue(3, "((F5)4)6", 120 * 99);
        });
    }

    private static void ofRopeLoop() {
        Edges.edge(15, "4 the crossings of its tight loop", () -> {
            ofRopeDue(4, "", 0);
            ofRopeDue(4, "a", 1);
            ofRopeDue(4, "aA", 0);
            ofRopeDue(4, "abA", 1);
            ofRopeDue(4, "abcA", 2);
            ofRopeDue(4, "abaC", 4);
            ofRopeDue(4, FULL, 120);
        });
        Edges.edge(15, "5 its power (0 if its tight loop is empty)", () -> {
            ofRopeDue(5, "", 0);
            ofRopeDue(5, "abBA", 0);
            ofRopeDue(5, "a", 1);
            ofRopeDue(5, "a2", 2);
            ofRopeDue(5, "c(ab)3C", 3);
            ofRopeDue(5, "(ab)3C", 1);
            ofRopeDue(5, FULL, 6);
            ofRopeDue(5, "((F5)4)6", 120);
        });
        Edges.edge(15, "6 the set of posts at which its tight loop has crossings", () -> {
            ofRopeDue(6, "", 0);
            ofRopeDue(6, "aA", 0);
            ofRopeDue(6, "abA", 2);
            ofRopeDue(6, "cCF", 32);
            ofRopeDue(6, "dabcD", 7);
            ofRopeDue(6, "abcdef", 63);
            ofRopeDue(6, "aaF", 33);
        });
    }

    private static void ofRopeRefused() {
        Edges.edge(15, "Returns the number", () -> {
            int[] wants = {6, 15, 4, 13, 2, 1, 3, 4, 0};
            for (int what = 0; what <= 8; what++) {
                ofRopeDue(what, "CabcbB", wants[what]);
            }
        });
        Edges.edge(15, "NO_SUCH if there is no such rope", () -> {
            for (int what = 0; what <= 8; what++) {
                int asked = what;
                Edges.eachNoSuch(Edges.NO_ROPES, (x, rope) -> x.ofRope(rope, asked));
            }
        });
        Edges.edge(15, "BAD_VALUE if what is out of range.", () -> {
            int[] wrong = {-1, 9, 10, 256, Integer.MIN_VALUE, Integer.MAX_VALUE};
            Edges.eachBadValue(wrong, (x, what) -> x.ofRope(0, what));
            Edges.eachBadValue(wrong, (x, what) -> x.ofRope(3, what));
        });
    }

    private static void winds() {
        Edges.edge(16, "Tells how often a rope winds round a post: its crossings to the left there, less those to the right.", () -> {
            CountedRopes x = Checks.with("aabAAAcC", "a");
            due("more to the right", x.winds(0, 0), 999);
            due("one to the left", x.winds(0, 1), 1001);
            due("as many as to the right", x.winds(0, 2), 1000);
            due("none", x.winds(0, 3), 1000);
            due("another rope", x.winds(1, 0), 1001);
        });
        Edges.edge(16, "Returns 1000 and this number", () -> {
            CountedRopes x = Checks.with("((f5)4)6", "((A5)4)6");
            due("120 to the left", x.winds(0, 5), 1120);
            due("120 to the right", x.winds(1, 0), 880);
            due("none of an empty rope", x.winds(2, 0), 1000);
        });
        Edges.edge(16, "NO_SUCH if there is no such rope or post.", () -> {
            Edges.eachNoSuch(Edges.NO_ROPES, (x, rope) -> x.winds(rope, 0));
            Edges.eachNoSuch(Edges.NO_POSTS, (x, post) -> x.winds(0, post));
            Edges.eachNoSuch(Edges.NO_POSTS, (x, post) -> x.winds(3, post));
        });
    }

    private static void least() {
        Edges.edge(17, "Returns a crossing of the least form of a rope.", () -> {
            CountedRopes x = Checks.with("cbaC", "FE");
            due("the first", x.least(0, 0), 0);
            due("the second", x.least(0, 1), 1);
            due("of another rope", x.least(1, 0), 10);
        });
        Edges.edge(17, "Returns the crossing, 0 to 11", () -> {
            due("0", Checks.with("a").least(0, 0), 0);
            due("11", Checks.with("F").least(0, 0), 11);
            CountedRopes x = Checks.with("(((cd)5(ab)5)3)2");
            due("the first of 120", x.least(0, 0), 0);
            due("the last of 120", x.least(0, 119), 3);
        });
        Edges.edge(17, "NO_SUCH if there is no such rope, or its least form has no such place.", () -> {
            Edges.eachNoSuch(Edges.NO_ROPES, (x, rope) -> x.least(rope, 0));
            int[] wrong = {-1, 2, 3, 120, 256, Integer.MIN_VALUE, Integer.MAX_VALUE};
            Edges.eachNoSuch(wrong, (x, place) -> x.least(0, place));
            CountedRopes x = Checks.with("cabC", "aA", FULL);
            due("a place of the rope alone", x.least(0, 2), NO_SUCH);
            due("the last of the least form", x.least(0, 1), 1);
            due("a rope that falls", x.least(1, 0), NO_SUCH);
            due("an empty rope", x.least(3, 0), NO_SUCH);
            due("place 120 of 120", x.least(2, 120), NO_SUCH);
        });
    }

    private static void count() {
        Edges.edge(18, "Returns a number.", () -> due("this one", new CountedRopes().count(0), 1));
        Edges.edge(18, "0 to 5 the widths of the posts", () -> {
            CountedRopes x = new CountedRopes();
            for (int post = 0; post < 6; post++) {
                x.width(post, 94 + post);
            }
            for (int post = 0; post < 6; post++) {
                due("a width", x.count(post), 94 + post);
            }
        });
        Edges.edge(18, "6 the crossings of all ropes together", () -> {
            due("none", new CountedRopes().count(6), 0);
            due("not pulled", Checks.with("aA", "b", "", "cde").count(6), 6);
            due("480", Checks.with(FULL, FULL, FULL, FULL).count(6), 480);
        });
        Edges.edge(18, "7 the length of the pad", () -> {
            due("none", new CountedRopes().count(7), 0);
            due("three", Edges.scene().count(7), 3);
            due("sixty", Edges.fullPad().count(7), 60);
        });
        Edges.edge(18, "8 how many changes can be undone", () -> {
            CountedRopes x = new CountedRopes();
            due("none", x.count(8), 0);
            for (int many = 1; many <= 14; many++) {
                x.cross(0, 0);
                due("six at most", x.count(8), Math.min(many, 6));
            }
            x.undo();
            due("five", x.count(8), 5);
        });
        Edges.edge(18, "Returns the number", () -> due("that of the post", Edges.scene().count(5), 50));
        Edges.edge(18, "BAD_VALUE if what is out of range.", () -> {
            int[] wrong = {-1, 9, 10, 256, Integer.MIN_VALUE, Integer.MAX_VALUE};
            Edges.eachBadValue(wrong, (x, what) -> x.count(what));
        });
    }

    private static void falls() {
        Edges.edge(19, "Tells whether a rope falls if posts are pulled out (all crossings at them are gone then).", () -> {
            CountedRopes x = Checks.with("abAB", "acbCBA", "cdf");
            due("to the left and to the right", x.falls(0, 1), 1);
            due("one is not enough", x.falls(1, 1), 0);
            due("the others cancel when it is gone", x.falls(1, 4), 1);
            due("and by more posts too", x.falls(1, 5), 1);
            due("a post without crossings", x.falls(0, 4), 0);
            due("all but one", x.falls(2, 63 - 4), 0);
            due("all three", x.falls(2, 4 + 8 + 32), 1);
        });
        Edges.edge(19, "a set of posts", () -> {
            CountedRopes x = Checks.with("a", "f");
            for (int posts = 0; posts < 64; posts++) {
                due("post 0 is bit 0", x.falls(0, posts), posts & 1);
                due("post 5 is bit 5", x.falls(1, posts), posts >> 5);
            }
        });
        Edges.edge(19, "Returns 1 or 0", () -> {
            due("the empty set", Checks.with("ab").falls(0, 0), 0);
            due("the empty set, and a rope that falls", Checks.with("aA").falls(0, 0), 1);
            due("an empty rope", new CountedRopes().falls(0, 0), 1);
            due("all posts", Checks.with(FULL).falls(0, 63), 1);
        });
        Edges.edge(19, "NO_SUCH if there is no such rope, or posts is not 0 to 63.", () -> {
            Edges.eachNoSuch(Edges.NO_ROPES, (x, rope) -> x.falls(rope, 0));
            int[] wrong = {-1, -64, 64, 65, 127, 128, 256, 65536, Integer.MIN_VALUE, Integer.MAX_VALUE};
            Edges.eachNoSuch(wrong, (x, posts) -> x.falls(0, posts));
            Edges.eachNoSuch(wrong, (x, posts) -> x.falls(3, posts));
        });
    }

    private static void fellingDue(String text, int many, int best) {
        CountedRopes x = Checks.with(text);
        due("how many for " + text, x.felling(0, 0), many);
        due("the first for " + text, x.felling(0, 1), best);
    }

    private static void felling() {
        Edges.edge(20, "Finds the sets of posts by which a rope falls if they are pulled out, but by no smaller part of them "
            + "(the empty set alone, if it falls already).", () -> {
            fellingDue("a", 1, 1);
            fellingDue("F", 1, 32);
            fellingDue("ab", 1, 3);
            fellingDue("abcdef", 1, 63);
            fellingDue("[a,b]", 2, 1);
            fellingDue("[a,b]c", 2, 5);
            fellingDue("[[[[a,b],c],d],e]", 5, 1);
            fellingDue("", 1, 0);
            fellingDue("abBA", 1, 0);
            fellingDue("((aA)5(bB)5)6", 1, 0);
        });
        Edges.edge(20, "0 how many such sets there are", () -> {
            fellingDue("[a,b][c,d]", 4, 5);
            fellingDue("[a,b][c,d][e,f]", 8, 21);
            fellingDue("[abc,def]", 2, 7);
            fellingDue("[[ab,c],d]", 3, 4);
        });
    }

    private static void fellingAnswers() {
        Edges.edge(20, "1 the one with the fewest posts, of several the lowest mask", () -> {
            fellingDue("[ab,c]", 2, 4);
            fellingDue("[ab,cd]", 2, 3);
            fellingDue("[cd,ab]", 2, 3);
            fellingDue("[e,f]", 2, 16);
            fellingDue("[abcde,f]", 2, 32);
            fellingDue("[abc,de]", 2, 24);
        });
        Edges.edge(20, "Returns the number", () -> {
            CountedRopes x = Checks.with("a", "[b,c]");
            due("of this rope", x.felling(1, 0), 2);
            due("of that rope", x.felling(0, 0), 1);
        });
        Edges.edge(20, "NO_SUCH if there is no such rope", () -> {
            Edges.eachNoSuch(Edges.NO_ROPES, (x, rope) -> x.felling(rope, 0));
            Edges.eachNoSuch(Edges.NO_ROPES, (x, rope) -> x.felling(rope, 1));
        });
        Edges.edge(20, "BAD_VALUE if what is neither 0 nor 1.", () -> {
            Edges.eachBadValue(Edges.NEITHER_0_NOR_1, (x, what) -> x.felling(0, what));
            due("an empty rope", new CountedRopes().felling(0, 2), BAD_VALUE);
        });
    }

    private static void bothDue(int what, String one, String two, int want) {
        CountedRopes x = Checks.with(one, two);
        due(what + " of " + one + " and " + two, x.both(0, 1, what), want);
        due("the other way round", x.both(1, 0, what), want);
    }

    private static void bothAlike() {
        Edges.edge(21, "Tells how two ropes are to each other.", () -> {
            CountedRopes x = Checks.with("ab", "", "ab", "c");
            due("these two", x.both(0, 2, 3), 1);
            due("those two", x.both(0, 3, 3), 0);
            for (int what = 0; what < 4; what++) {
                due("a rope to itself", x.both(0, 0, what), what == 1 ? 0 : 1);
                due("an empty rope to itself", x.both(1, 1, what), 1);
            }
        });
        Edges.edge(21, "0 whether they are alike", () -> {
            bothDue(0, "ab", "ba", 1);
            bothDue(0, "ab", "cbaC", 1);
            bothDue(0, "abc", "acb", 0);
            bothDue(0, "a", "A", 0);
            bothDue(0, "ab", "abab", 0);
            bothDue(0, "", "aA", 1);
            bothDue(0, "", "a", 0);
            bothDue(0, FULL, "((cd)5(ab)5)6", 1);
        });
        Edges.edge(21, "1 whether one is alike to the other one turned", () -> {
            bothDue(1, "ab", "BA", 1);
            bothDue(1, "ab", "AB", 1);
            bothDue(1, "ab", "ab", 0);
            bothDue(1, "a", "cAC", 1);
            bothDue(1, "[a,b]", "[b,a]", 1);
            bothDue(1, "", "bB", 1);
            bothDue(1, "", "b", 0);
            bothDue(1, FULL, "((CD)5(AB)5)6", 0);
            bothDue(1, FULL, "((DC)5(BA)5)6", 1);
        });
    }

    private static void bothSame() {
        Edges.edge(21, "2 whether they commute (one behind the other, pulled, is the same word both ways)", () -> {
            bothDue(2, "ab", "abab", 1);
            bothDue(2, "ab", "BA", 1);
            bothDue(2, "ab", "ba", 0);
            bothDue(2, "a", "b", 0);
            bothDue(2, "cabC", "cababC", 1);
            bothDue(2, "", "a", 1);
            bothDue(2, "aA", "b", 1);
            bothDue(2, FULL, "((ab)5(cd)5)5", 1);
            bothDue(2, FULL, "((cd)5(ab)5)6", 0);
        });
        Edges.edge(21, "3 whether both, pulled, are the same word", () -> {
            bothDue(3, "ab", "acCb", 1);
            bothDue(3, "ab", "ba", 0);
            bothDue(3, "ab", "abc", 0);
            bothDue(3, "a", "A", 0);
            bothDue(3, "", "abBA", 1);
            bothDue(3, "abA", "b", 0);
            bothDue(3, FULL, FULL, 1);
            bothDue(3, FULL, "((ab)5(cd)5)5(ab)5(cd)4cD", 0);
        });
        Edges.edge(21, "Returns 1 or 0", () -> due("1", Checks.with("a", "a").both(0, 1, 0), 1));
        Edges.edge(21, "NO_SUCH if there is no such rope", () -> {
            for (int what = 0; what < 4; what++) {
                int asked = what;
                Edges.eachNoSuch(Edges.NO_ROPES, (x, rope) -> x.both(rope, 0, asked));
                Edges.eachNoSuch(Edges.NO_ROPES, (x, rope) -> x.both(0, rope, asked));
                Edges.eachNoSuch(Edges.NO_ROPES, (x, rope) -> x.both(rope, rope, asked));
            }
        });
        Edges.edge(21, "BAD_VALUE if what is out of range.", () -> {
            int[] wrong = {-1, 4, 5, 256, Integer.MIN_VALUE, Integer.MAX_VALUE};
            Edges.eachBadValue(wrong, (x, what) -> x.both(0, 1, what));
            Edges.eachBadValue(wrong, (x, what) -> x.both(2, 2, what));
        });
    }

    private static void cuts() {
        Edges.edge(22, "Finds the fewest crossings that have to be cut out of a rope so that it falls.", () -> {
            CountedRopes x = Checks.with("abA", "abAB", "abcAdC", "abaBA");
            due("the one between", x.cuts(0), 1);
            due("one of both pairs", x.cuts(1), 2);
            due("pairs that lie across each other", x.cuts(2), 4);
            due("one of five", x.cuts(3), 1);
            CountedRopes y = Checks.with("aabAbAB", "[[a,b],c]", "aAa", "a9b9A9B9");
            due("one is enough for none", y.cuts(0), 3);
            due("two of ten", y.cuts(1), 2);
            due("one of three", y.cuts(2), 1);
            due("nine twice", y.cuts(3), 18);
            CountedRopes z = Checks.with("cabA", "abAcdC", "abcAdCBA", "abcAdCBe");
            due("a pair that begins later", z.cuts(0), 2);
            due("two pairs, one behind the other", z.cuts(1), 2);
            due("not the nearest one", z.cuts(2), 2);
            due("two pairs, one inside the other", z.cuts(3), 4);
            CountedRopes v = Checks.with("abAcA", "abAca", "aabAbAB", "baBAbabABab");
            due("the first cancels once alone", v.cuts(0), 3);
            due("so does the last", v.cuts(1), 3);
            due("cut again after others", v.cuts(2), 3);
            due("pairs side by side and inside", v.cuts(3), 3);
        });
        Edges.edge(22, "Returns how many", () -> {
            due("none of an empty rope", new CountedRopes().cuts(0), 0);
            due("none of one that falls", Checks.with("abBA").cuts(0), 0);
            due("none of 120 that fall", Checks.with("((aA)5(bB)5)6").cuts(0), 0);
            due("one of one", Checks.with("F").cuts(0), 1);
            due("120 of 120", Checks.with("((f5)4)6").cuts(0), 120);
            due("120 of 120 at four posts", Checks.with(FULL).cuts(0), 120);
            due("1 of 119", Checks.with("a9a9a9a9a9a9a5bA9A9A9A9A9A9A5").cuts(0), 1);
            due("60 of 120", Checks.with("[(ab)9(ab)6,(cd)9(cd)6]").cuts(0), 60);
        });
        Edges.edge(22, "NO_SUCH if there is no such rope.", () -> Edges.eachNoSuch(Edges.NO_ROPES, (x, rope) -> x.cuts(rope)));
    }

    private static void ifSwapped() {
        Edges.edge(23, "Tells how many crossings the ropes would have together if two posts changed places, as by swap().", () -> {
            CountedRopes x = Checks.with("abAcb", "bBF", "Cd", "fea");
            for (int post = 0; post < 5; post++) {
                for (int back = 0; back < 2; back++) {
                    int would = x.ifSwapped(post, back);
                    due("as by swap", x.swap(post, back), would);
                    x.undo();
                }
            }
            due("all are pulled", Checks.with("aA", "fF").ifSwapped(2, 0), 0);
            due("by hand", Checks.with("a", "b", "AB", "c").ifSwapped(0, 0), 3 + 1 + 4 + 1);
            due("by hand, back", Checks.with("a", "b", "AB", "c").ifSwapped(0, 1), 1 + 3 + 4 + 1);
        });
        Edges.edge(23, "0 to 4", () -> {
            for (int post = 0; post <= 4; post++) {
                CountedRopes x = new CountedRopes();
                x.cross(0, post);
                due("a post", x.ifSwapped(post, 0), 3);
                due("back", x.ifSwapped(post, 1), 1);
            }
        });
        Edges.edge(23, "0 or 1", () -> {
            due("0", Checks.with("f").ifSwapped(4, 0), 1);
            due("1", Checks.with("f").ifSwapped(4, 1), 3);
        });
        Edges.edge(23, "Returns how many (also if a rope would have more than 120)", () -> {
            CountedRopes x = Checks.with("((ac)5)6c", "(((ac)5)4)3", "(((ac)5)4)3", "(((ac)5)4)3");
            due("121 and three of 240", x.ifSwapped(0, 0), 121 + 3 * 240);
            due("swap would not", x.swap(0, 0), TOO_MANY);
            due("asked again", x.ifSwapped(0, 0), 121 + 3 * 240);
            due("without more", x.ifSwapped(0, 1), 61 + 3 * 120);
            due("121", Checks.with("((be)5)6e").ifSwapped(0, 1), 121);
        });
        Edges.edge(23, "NO_SUCH if post is out of range", () -> {
            Edges.eachNoSuch(Edges.NO_SWAPS, (x, post) -> x.ifSwapped(post, 0));
            Edges.eachNoSuch(Edges.NO_SWAPS, (x, post) -> x.ifSwapped(post, 1));
        });
        Edges.edge(23, "BAD_VALUE if back is out of range.", () -> {
            Edges.eachBadValue(Edges.NEITHER_0_NOR_1, (x, back) -> x.ifSwapped(0, back));
            Edges.eachBadValue(Edges.NEITHER_0_NOR_1, (x, back) -> x.ifSwapped(4, back));
        });
    }

    private static void bestDue(String text, int post, int back, int many) {
        CountedRopes x = text.isEmpty() ? new CountedRopes() : Checks.with(text);
        due("post for " + text, x.bestSwap(0), post);
        due("back for " + text, x.bestSwap(1), back);
        due("how many for " + text, x.bestSwap(2), many);
    }

    private static void bestSwap() {
        Edges.edge(24, "Finds the change of places by which the ropes would have the fewest crossings together, of several the one "
            + "with the lowest post, then back 0 ahead of 1.", () -> {
            bestDue("", 0, 0, 0);
            bestDue("aA", 0, 0, 0);
            bestDue("f", 0, 0, 1);
            bestDue("a", 0, 1, 1);
            bestDue("abA", 0, 1, 1);
            bestDue("Bab", 0, 0, 1);
            bestDue("bcB", 1, 1, 1);
            bestDue("Fef", 4, 0, 1);
            bestDue("eFE", 4, 1, 1);
        });
        Edges.edge(24, "0 the post", () -> due("the last", Checks.with("Fef").bestSwap(0), 4));
        Edges.edge(24, "1 back", () -> due("1", Checks.with("efE").bestSwap(1), 1));
        Edges.edge(24, "2 how many crossings", () -> {
            CountedRopes x = Checks.with("Fef", "c", "dD", "FEf");
            due("together", x.bestSwap(2), 1 + 1 + 1);
            CountedRopes y = Checks.with("(((ac)5)4)3", "(((bd)5)4)3", "(((ce)5)4)3", "(((df)5)4)3");
            due("also if swap would refuse each of them", y.bestSwap(2), 600);
            due("the first of those", y.bestSwap(0), 0);
            due("it would", y.swap(0, 0), TOO_MANY);
        });
        Edges.edge(24, "Returns the number", () -> due("0", new CountedRopes().bestSwap(2), 0));
        Edges.edge(24, "BAD_VALUE if what is out of range.", () -> {
            int[] wrong = {-1, 3, 4, 256, Integer.MIN_VALUE, Integer.MAX_VALUE};
            Edges.eachBadValue(wrong, (x, what) -> x.bestSwap(what));
        });
    }
}
