/** The sentences of promises 1 to 9: posts and ropes. */
final class RopeEdges {
    private static final int NO_SUCH = -1, BAD_VALUE = -2, TOO_MANY = -4, NOT_POSSIBLE = -5;

    private RopeEdges() {
    }

    static void all() {
        newObject();
        width();
        cross();
        crossLimits();
        back();
        backLimits();
        pull();
        join();
        joinLimits();
        turn();
        weave();
        weaveLimits();
        swap();
        swapBack();
        swapAnswers();
        swapLimits();
    }

    private static void due(String what, long got, long want) {
        Checks.due(what, got, want);
    }

    private static void same(String what, String got, String want) {
        Checks.due(what, got, want);
    }

    /** All four ropes, with a bar behind each. */
    private static String words(CountedRopes x) {
        return Checks.word(x, 0) + "|" + Checks.word(x, 1) + "|" + Checks.word(x, 2) + "|" + Checks.word(x, 3) + "|";
    }

    private static void newObject() {
        Edges.edge(1, "Creates posts of the width 1, and ropes without crossings.", () -> {
            String untouched = Edges.whole(new CountedRopes());
            CountedRopes x = new CountedRopes();
            CountedRopes y = new CountedRopes();
            same("posts and ropes", Checks.widthsAndRopes(x), "1 1 1 1 1 1     ");
            due("no place", x.crossing(0, 0), NO_SUCH);
            due("no crossing to take", x.back(3, 1), NOT_POSSIBLE);
            due("an empty pad", x.count(7), 0);
            due("an empty history", x.undo(), NOT_POSSIBLE);
            due("nothing saved", x.restore(0), NOT_POSSIBLE);
            due("nothing saved in the other slot", x.restore(1), NOT_POSSIBLE);
            x.width(0, 2);
            x.cross(0, 0);
            x.put('a');
            x.save(0);
            same("another object has its own", Edges.whole(y), untouched);
        });
    }

    private static void width() {
        Edges.edge(2, "Changes the width of a post.", () -> {
            for (int post = 0; post < 6; post++) {
                CountedRopes x = Checks.with("abcdef");
                x.width(post, 11);
                due("this one", x.count(post), 11);
                due("no other", x.ofRope(0, 1), 5 + 11);
            }
        });
        Edges.edge(2, "This is a change.", () -> {
            Edges.change(x -> x.width(0, 3));
            Edges.change(x -> x.width(1, 1));
        });
        Edges.edge(2, "1 to 99", () -> {
            CountedRopes x = new CountedRopes();
            due("the widest", x.width(0, 99), 1);
            due("the narrowest", x.width(0, 1), 99);
            due("next to the widest", x.width(0, 98), 1);
            due("it stands", x.count(0), 98);
        });
        Edges.edge(2, "Returns the previous width", () -> {
            CountedRopes x = new CountedRopes();
            due("the first one", x.width(5, 40), 1);
            due("the one before", x.width(5, 41), 40);
            due("the same again", x.width(5, 41), 41);
            due("another post's", x.width(4, 41), 1);
            x.undo();
            x.undo();
            x.undo();
            due("after undo", x.width(5, 2), 40);
        });
        Edges.edge(2, "NO_SUCH if there is no such post", () -> Edges.eachNoSuch(Edges.NO_POSTS, (x, post) -> x.width(post, 5)));
        Edges.edge(2, "BAD_VALUE if width is out of range", () -> {
            int[] wrong = {0, -1, 100, 101, 256 + 1, 65536 + 1, Integer.MIN_VALUE, Integer.MIN_VALUE + 1, Integer.MAX_VALUE};
            Edges.eachBadValue(wrong, (x, width) -> x.width(5, width));
        });
    }

    private static void cross() {
        Edges.edge(3, "Puts a crossing at the end of a rope.", () -> {
            CountedRopes x = Checks.with("ab", "c");
            x.cross(0, 7);
            x.cross(3, 0);
            same("at the end, not pulled, and of this rope alone", words(x), "abB|c||a|");
        });
        Edges.edge(3, "This is a change.", () -> Edges.change(x -> x.cross(2, 4)));
        Edges.edge(3, "0 to 11", () -> {
            for (int crossing = 0; crossing <= 11; crossing++) {
                CountedRopes x = new CountedRopes();
                due("a crossing", x.cross(1, crossing), 1);
                due("that one", x.crossing(1, 0), crossing);
            }
        });
        Edges.edge(3, "Returns how many crossings it has then", () -> {
            CountedRopes x = new CountedRopes();
            due("one", x.cross(0, 3), 1);
            due("two, though they cancel", x.cross(0, 9), 2);
            due("of this rope alone", x.cross(1, 3), 1);
            due("three", x.cross(0, 3), 3);
        });
        Edges.edge(3, "NO_SUCH if there is no such rope", () -> Edges.eachNoSuch(Edges.NO_ROPES, (x, rope) -> x.cross(rope, 0)));
        Edges.edge(3, "BAD_VALUE if crossing is out of range", () -> {
            int[] wrong = {-1, 12, 13, 256, 65536, Integer.MIN_VALUE, Integer.MAX_VALUE};
            Edges.eachBadValue(wrong, (x, crossing) -> x.cross(0, crossing));
        });
    }

    private static void crossLimits() {
        Edges.edge(3, "TOO_MANY if it has 120.", () -> {
            for (int rope = 0; rope < 4; rope++) {
                CountedRopes x = new CountedRopes();
                Checks.load(x, rope, "((ab)5(cd)5)5(ab)9a");
                due("119 are not too many", x.ofRope(rope, 0), 119);
                due("it becomes 120", x.cross(rope, 11), 120);
                due("120 are", x.cross(rope, 11), TOO_MANY);
                due("they are, though both would cancel", x.cross(rope, 5), TOO_MANY);
                due("the last stays", x.crossing(rope, 119), 11);
                due("another rope has room", x.cross((rope + 1) % 4, 5), 1);
                due("one is taken", x.back(rope, 1), 119);
                due("then there is room", x.cross(rope, 5), 120);
            }
        });
    }

    private static void back() {
        Edges.edge(4, "Takes crossings from the end of a rope.", () -> {
            CountedRopes x = Checks.with("abcdef", "ab");
            x.back(0, 2);
            same("the last two of this rope", words(x), "abcd|ab|||");
            x.back(1, 1);
            x.cross(1, 5);
            same("what comes then stands in their place", words(x), "abcd|af|||");
        });
        Edges.edge(4, "This is a change.", () -> {
            Edges.change(x -> x.back(0, 1));
            Edges.change(x -> x.back(2, 3));
        });
        Edges.edge(4, "1 to 120", () -> {
            CountedRopes x = Checks.with("((ab)5(cd)5)6");
            due("one", x.back(0, 1), 119);
            x.cross(0, 0);
            due("119", x.back(0, 119), 1);
            x.undo();
            due("120", x.back(0, 120), 0);
        });
        Edges.edge(4, "Returns how many crossings it has then", () -> {
            CountedRopes x = Checks.with("abBc");
            due("three", x.back(0, 1), 3);
            due("one", x.back(0, 2), 1);
            due("none", x.back(0, 1), 0);
        });
        Edges.edge(4, "NO_SUCH if there is no such rope", () -> Edges.eachNoSuch(Edges.NO_ROPES, (x, rope) -> x.back(rope, 1)));
    }

    private static void backLimits() {
        Edges.edge(4, "BAD_VALUE if many is out of range", () -> {
            int[] wrong = {0, -1, -120, 121, 256 + 1, 65536 + 1, Integer.MIN_VALUE, Integer.MIN_VALUE + 1, Integer.MAX_VALUE};
            Edges.eachBadValue(wrong, (x, many) -> x.back(0, many));
            CountedRopes x = Checks.with("((ab)5(cd)5)6");
            due("121 of 120", x.back(0, 121), BAD_VALUE);
            due("none of 120", x.back(0, 0), BAD_VALUE);
            due("none of none", x.back(1, 0), BAD_VALUE);
        });
        Edges.edge(4, "NOT_POSSIBLE if it has not so many.", () -> {
            CountedRopes x = Checks.with("abc", "((ab)5(cd)5)5(ab)9a");
            due("one more than it has", x.back(0, 4), NOT_POSSIBLE);
            due("the most", x.back(0, 120), NOT_POSSIBLE);
            due("one of an empty rope", x.back(2, 1), NOT_POSSIBLE);
            due("120 of an empty rope", x.back(3, 120), NOT_POSSIBLE);
            due("120 of 119", x.back(1, 120), NOT_POSSIBLE);
            due("as many as it has", x.back(0, 3), 0);
            due("one more then", x.back(0, 1), NOT_POSSIBLE);
        });
    }

    private static void pull() {
        Edges.edge(5, "Pulls a rope.", () -> {
            CountedRopes x = Checks.with("abBc", "dD", "eE");
            x.pull(0);
            same("this one", words(x), "ac|dD|eE||");
            x.pull(2);
            same("and that one", words(x), "ac|dD|||");
        });
        Edges.edge(5, "This is a change.", () -> {
            Edges.change(x -> x.pull(1));
            Edges.change(x -> x.pull(0));
            Edges.change(x -> x.pull(3));
        });
        Edges.edge(5, "Returns how many pairs were taken out", () -> {
            CountedRopes x = Checks.with("((a5)4)3((A5)4)3", "((aA)5(Bb)5)6", "abab");
            due("60, one inside the other", x.pull(0), 60);
            due("60, one behind the other", x.pull(1), 60);
            due("none", x.pull(2), 0);
            due("none of an empty rope", x.pull(3), 0);
            due("none the second time", x.pull(0), 0);
            due("one", Checks.with("aAa").pull(0), 1);
        });
        Edges.edge(5, "NO_SUCH if there is no such rope.", () -> Edges.eachNoSuch(Edges.NO_ROPES, (x, rope) -> x.pull(rope)));
    }

    private static void join() {
        Edges.edge(6, "Puts the word of a rope at the end of a rope (perhaps its own one).", () -> {
            CountedRopes x = Checks.with("ab", "Bc");
            x.join(0, 1);
            same("at the end, not pulled", words(x), "abBc|Bc|||");
            x.join(1, 1);
            same("its own one", words(x), "abBc|BcBc|||");
            x.join(3, 0);
            same("at the end of an empty one", words(x), "abBc|BcBc||abBc|");
            x.join(2, 2);
            x.join(3, 2);
            same("an empty one", words(x), "abBc|BcBc||abBc|");
        });
        Edges.edge(6, "This is a change.", () -> {
            Edges.change(x -> x.join(0, 1));
            Edges.change(x -> x.join(2, 2));
            Edges.change(x -> x.join(3, 3));
        });
        Edges.edge(6, "the one that becomes longer", () -> due("the first one", Checks.with("ab", "cde").join(0, 1), 5));
        Edges.edge(6, "the one whose word is put there", () -> {
            CountedRopes x = Checks.with("ab", "cde");
            x.join(0, 1);
            due("the other one stays", x.ofRope(1, 0), 3);
        });
        Edges.edge(6, "Returns how many crossings it has then", () -> {
            CountedRopes x = Checks.with("ab", "BA");
            due("also those that cancel", x.join(0, 1), 4);
            due("its own one", x.join(0, 0), 8);
            due("with an empty one", x.join(0, 3), 8);
            due("two empty ones", x.join(2, 3), 0);
        });
        Edges.edge(6, "NO_SUCH if there is no such rope", () -> {
            Edges.eachNoSuch(Edges.NO_ROPES, (x, rope) -> x.join(rope, 0));
            Edges.eachNoSuch(Edges.NO_ROPES, (x, rope) -> x.join(0, rope));
            Edges.eachNoSuch(Edges.NO_ROPES, (x, rope) -> x.join(rope, rope));
        });
    }

    private static void joinLimits() {
        Edges.edge(6, "TOO_MANY if it would have more than 120.", () -> {
            CountedRopes x = Checks.with("((ab)5(cd)5)3", "((cd)5)6");
            due("60 and 60", x.join(0, 1), 120);
            due("120 and 60", x.join(0, 1), TOO_MANY);
            due("60 and 120", x.join(1, 0), TOO_MANY);
            due("120 and 120", x.join(0, 0), TOO_MANY);
            due("120 and none", x.join(0, 3), 120);
            due("none and 120", x.join(3, 0), 120);
            x.cross(2, 9);
            due("120 and one, though two would cancel", x.join(0, 2), TOO_MANY);
            due("one and 120", x.join(2, 0), TOO_MANY);
            due("60 twice", x.join(1, 1), 120);
            CountedRopes y = Checks.with("((ab)5(cd)5)3a", "((cd)5)6", "((cd)5)5(cd)4c");
            due("61 and 60", y.join(0, 1), TOO_MANY);
            due("61 twice", y.join(0, 0), TOO_MANY);
            due("61 and 59", y.join(0, 2), 120);
        });
    }

    private static void turn() {
        Edges.edge(7, "Turns the word of a rope.", () -> {
            CountedRopes x = Checks.with("abC", "ab");
            x.turn(0);
            same("this one", words(x), "cBA|ab|||");
            x.turn(1);
            same("and that one", words(x), "cBA|BA|||");
            CountedRopes y = Checks.with("((ab)5(cd)5)6");
            y.turn(0);
            due("120: the last is the first", y.crossing(0, 0), 9);
            due("the first is the last", y.crossing(0, 119), 6);
            due("the 61st is the 60th", y.crossing(0, 59), 6);
            due("the 60th is the 61st", y.crossing(0, 60), 9);
        });
        Edges.edge(7, "This is a change.", () -> {
            Edges.change(x -> x.turn(0));
            Edges.change(x -> x.turn(3));
        });
        Edges.edge(7, "Returns how many crossings it has", () -> {
            CountedRopes x = Checks.with("((ab)5(cd)5)6", "a", "aAb");
            due("120", x.turn(0), 120);
            due("one", x.turn(1), 1);
            due("it is not pulled", x.turn(2), 3);
            due("none", x.turn(3), 0);
        });
        Edges.edge(7, "NO_SUCH if there is no such rope.", () -> Edges.eachNoSuch(Edges.NO_ROPES, (x, rope) -> x.turn(rope)));
    }

    private static void weave() {
        Edges.edge(8, "Weaves two ropes: the word of a rope becomes its word, that of another one, its word turned, "
            + "that of the other one turned, and it is pulled.", () -> {
            CountedRopes x = Checks.with("ab", "c");
            x.weave(0, 1);
            same("the first one", words(x), "abcBAC|c|||");
            CountedRopes y = Checks.with("ab", "Ba");
            y.weave(1, 0);
            same("pulled where they meet", words(y), "ab|BaabAA|||");
            CountedRopes z = Checks.with("aA", "bcC");
            z.weave(0, 1);
            same("also if nothing is left", words(z), "|bcC|||");
            CountedRopes v = Checks.with("abBcC", "dD");
            v.weave(0, 1);
            same("pairs in the words themselves", words(v), "|dD|||");
        });
        Edges.edge(8, "This is a change.", () -> {
            Edges.change(x -> x.weave(0, 2));
            Edges.change(x -> x.weave(3, 0));
        });
        Edges.edge(8, "Returns how many crossings it has then", () -> {
            CountedRopes x = Checks.with("ab", "c", "cc");
            due("six", x.weave(0, 1), 6);
            due("those that commute", x.weave(1, 2), 0);
            due("with an empty one", x.weave(0, 3), 0);
            due("an empty one", x.weave(3, 2), 0);
        });
        Edges.edge(8, "NO_SUCH if there is no such rope, or both are the same", () -> {
            Edges.eachNoSuch(Edges.NO_ROPES, (x, rope) -> x.weave(rope, 0));
            Edges.eachNoSuch(Edges.NO_ROPES, (x, rope) -> x.weave(0, rope));
            Edges.eachNoSuch(Edges.NO_ROPES, (x, rope) -> x.weave(rope, rope));
            Edges.eachNoSuch(new int[] {0, 1, 2, 3}, (x, rope) -> x.weave(rope, rope));
            due("two ropes of the same word are two", Checks.with("ab", "ab").weave(0, 1), 0);
        });
    }

    private static void weaveLimits() {
        Edges.edge(8, "TOO_MANY if it would have more than 120 when it is pulled.", () -> {
            CountedRopes x = Checks.with("((ab)5)3", "((cd)5)3");
            due("120 are not too many", x.weave(0, 1), 120);
            due("300 are", x.weave(0, 1), TOO_MANY);
            due("300 are the other way", x.weave(1, 0), TOO_MANY);
            due("122 are", Checks.with("((ab)5)3a", "((cd)5)3").weave(0, 1), TOO_MANY);
            due("122 are by the other one", Checks.with("((ab)5)3", "((cd)5)3c").weave(0, 1), TOO_MANY);
            CountedRopes y = Checks.with("(((ab)5)4)3", "(((ab)5)4)3", "c", "((dD)5(Ee)5)5(dD)9d");
            due("480 that are pulled to none", y.weave(0, 1), 0);
            due("240 that are pulled to four", y.weave(2, 3), 4);
            due("248 that are not pulled", y.weave(2, 1), TOO_MANY);
            due("an empty one and 120", y.weave(0, 1), 0);
            due("120 and an empty one", y.weave(1, 0), 0);
        });
    }

    private static void swapDue(String text, int post, int back, String want) {
        for (int rope = 0; rope < 4; rope++) {
            CountedRopes x = new CountedRopes();
            Checks.load(x, rope, text);
            due("swap " + post + " " + back + " of " + text, x.swap(post, back), want.length());
            same("it becomes", Checks.word(x, rope), want);
        }
    }

    private static void swap() {
        Edges.edge(9, "Two posts that are side by side change places: in each rope, each crossing to the left at post becomes "
            + "three crossings: to the left at post, to the left at post + 1, to the right at post", () -> {
            swapDue("a", 0, 0, "abA");
            swapDue("b", 1, 0, "bcB");
            swapDue("e", 4, 0, "efE");
            swapDue("aca", 0, 0, "abAcabA");
            swapDue("aa", 0, 0, "abbA");
        });
        Edges.edge(9, "each to the left at post + 1 becomes one to the left at post", () -> {
            swapDue("b", 0, 0, "a");
            swapDue("c", 1, 0, "b");
            swapDue("f", 4, 0, "e");
            swapDue("ab", 0, 0, "ab");
            swapDue("ba", 0, 0, "aabA");
        });
        Edges.edge(9, "those to the right become the turned words of these.", () -> {
            swapDue("A", 0, 0, "aBA");
            swapDue("B", 0, 0, "A");
            swapDue("D", 3, 0, "dED");
            swapDue("F", 4, 0, "E");
            swapDue("Ba", 0, 0, "bA");
            swapDue("cdefCDEF", 0, 0, "cdefCDEF");
            swapDue("abcdABCD", 4, 0, "abcdABCD");
        });
    }

    private static void swapBack() {
        Edges.edge(9, "(With back as 1 the other way round: to the left at post becomes one to the left at post + 1; to the left at post + 1 "
            + "becomes: to the right at post + 1, to the left at post, to the left at post + 1; and those to the right the turned words.)", () -> {
            swapDue("a", 0, 1, "b");
            swapDue("b", 0, 1, "Bab");
            swapDue("A", 0, 1, "B");
            swapDue("B", 0, 1, "BAb");
            swapDue("e", 4, 1, "f");
            swapDue("f", 4, 1, "Fef");
            swapDue("E", 4, 1, "F");
            swapDue("F", 4, 1, "FEf");
            swapDue("ab", 0, 1, "ab");
            swapDue("ba", 0, 1, "Babb");
            swapDue("bb", 0, 1, "Baab");
            swapDue("acdefACDEF", 1, 1, "aCbcdefACBcDEF");
        });
        Edges.edge(9, "(With back as 1 the other way round:", () -> {
            String words = "abACcbfFEDdaBc|FfabEd|cccDAb|eCa|";
            for (int post = 0; post < 5; post++) {
                for (int back = 0; back < 2; back++) {
                    CountedRopes x = Checks.with(words.split("\\|"));
                    x.swap(post, back);
                    x.swap(post, 1 - back);
                    same("there and back", words(x), "abAbEaBc|abEd|cccDAb|eCa|");
                }
            }
        });
    }

    private static void swapAnswers() {
        Edges.edge(9, "Then all ropes are pulled", () -> {
            CountedRopes x = Checks.with("eE", "abBA", "dDf", "cC");
            due("those without the posts too", x.swap(0, 0), 1);
            same("each one", words(x), "||f||");
            swapDue("aAcC", 0, 0, "");
            swapDue("aB", 0, 1, "Ab");
        });
        Edges.edge(9, "widths stay with the posts' numbers.", () -> {
            CountedRopes x = Checks.with("ab");
            x.width(0, 10);
            x.width(1, 20);
            x.swap(0, 0);
            due("the first", x.count(0), 10);
            due("the second", x.count(1), 20);
            x.swap(0, 1);
            due("the first, back", x.count(0), 10);
            due("the second, back", x.count(1), 20);
        });
        Edges.edge(9, "This is a change.", () -> {
            Edges.change(x -> x.swap(0, 0));
            Edges.change(x -> x.swap(4, 1));
            Edges.change(x -> x.swap(1, 0));
        });
        Edges.edge(9, "Returns how many crossings all ropes have together then", () -> {
            CountedRopes x = Checks.with("a", "A", "b", "cdD");
            due("all four", x.swap(0, 0), 3 + 3 + 1 + 1);
            due("none", new CountedRopes().swap(0, 0), 0);
            CountedRopes y = Checks.with("((ac)5)6", "((ac)5)6", "((ac)5)6", "((ac)5)6");
            due("480 at most", y.swap(0, 0), 480);
        });
    }

    private static void swapLimits() {
        Edges.edge(9, "0 to 4", () -> {
            for (int post = 0; post <= 4; post++) {
                due("a post", Checks.with("abcdef").swap(post, 0), 6);
                due("a post, back", Checks.with("fedcba").swap(post, 1), 8);
            }
        });
        Edges.edge(9, "0 or 1", () -> {
            due("0", Checks.with("a").swap(0, 0), 3);
            due("1", Checks.with("a").swap(0, 1), 1);
        });
        Edges.edge(9, "NO_SUCH if post is out of range", () -> {
            Edges.eachNoSuch(Edges.NO_SWAPS, (x, post) -> x.swap(post, 0));
            Edges.eachNoSuch(Edges.NO_SWAPS, (x, post) -> x.swap(post, 1));
        });
        Edges.edge(9, "BAD_VALUE if back is out of range", () -> {
            Edges.eachBadValue(Edges.NEITHER_0_NOR_1, (x, back) -> x.swap(0, back));
            Edges.eachBadValue(Edges.NEITHER_0_NOR_1, (x, back) -> x.swap(4, back));
        });
        Edges.edge(9, "TOO_MANY if a rope would have more than 120 when it is pulled.", () -> {
            String full = "((ac)5)6";
            for (int rope = 0; rope < 4; rope++) {
                due("120 are not too many", onRope(rope, full).swap(0, 0), 120);
                due("121 are", onRope(rope, full + "c").swap(0, 0), TOO_MANY);
                due("121 are in front", onRope(rope, "c" + full).swap(0, 0), TOO_MANY);
                due("back: 120 are not", onRope(rope, "((be)5)6").swap(0, 1), 120);
                due("back: 121 are", onRope(rope, "((be)5)6e").swap(0, 1), TOO_MANY);
            }
            due("118 in a row become 120", onRope(0, "((a5)4)5a9a9").swap(0, 0), 120);
            due("119 in a row become 121", onRope(0, "((a5)4)5a9a9a").swap(0, 0), TOO_MANY);
            due("120 that are pulled to none", onRope(0, "((aA)5(bB)5)6").swap(0, 0), 0);
            CountedRopes x = Checks.with("((ac)5)6", "((ac)5)6");
            x.cross(2, 4);
            due("240 in all are not too many", x.swap(0, 0), 241);
        });
    }

    private static CountedRopes onRope(int rope, String text) {
        CountedRopes x = new CountedRopes();
        Checks.load(x, rope, text);
        return x;
    }
}
