/** Each promise of the document: ordinary calls, the edges that it names, and wrong arguments. */
final class PromiseTests {
    private static final int NO_SUCH = -1, BAD_VALUE = -2, BAD_TEXT = -3, TOO_MANY = -4, NOT_POSSIBLE = -5, NONE = -6;
    private static final int[] NO_ROPES = {-1, 4, Integer.MIN_VALUE, Integer.MAX_VALUE};

    private PromiseTests() {
    }

    static void all() {
        newObject();
        width();
        cross();
        back();
        pull();
        join();
        turn();
        weave();
        swap();
        swapTooLong();
        put();
        wipe();
        fault();
        faultDepth();
        load();
        loadTooLong();
        crossing();
        ofRope();
        winds();
        least();
        count();
        falls();
        felling();
        both();
        cuts();
        ifSwapped();
        bestSwap();
        undo();
        undoLimits();
        save();
        restore();
    }

    private static void due(String what, long got, long want) {
        Checks.due(what, got, want);
    }

    private static void same(String what, String got, String want) {
        Checks.due(what, got, want);
    }

    private static void newObject() {
        CountedRopes x = new CountedRopes();
        for (int post = 0; post < 6; post++) {
            due("1: width at first", x.count(post), 1);
        }
        for (int rope = 0; rope < 4; rope++) {
            due("1: rope at first", x.ofRope(rope, 0), 0);
            due("1: no crossing", x.crossing(rope, 0), NO_SUCH);
        }
        due("1: no crossings together", x.count(6), 0);
        due("1: pad empty", x.count(7), 0);
        due("1: nothing to undo", x.count(8), 0);
        due("1: nothing saved", x.restore(0), NOT_POSSIBLE);
        due("1: nothing saved in the other slot", x.restore(1), NOT_POSSIBLE);
        CountedRopes y = new CountedRopes();
        x.cross(0, 1);
        x.width(0, 9);
        due("1: objects share no rope", y.ofRope(0, 0), 0);
        due("1: objects share no width", y.count(0), 1);
    }

    private static void width() {
        CountedRopes x = new CountedRopes();
        due("2: the previous one", x.width(0, 99), 1);
        due("2: the previous one again", x.width(0, 1), 99);
        due("2: the last post", x.width(5, 42), 1);
        due("2: it stays", x.count(5), 42);
        due("2: it is there", x.count(0), 1);
        due("2: three changes", x.count(8), 3);
        String before = Checks.state(x);
        due("2: too narrow", x.width(0, 0), BAD_VALUE);
        due("2: too wide", x.width(0, 100), BAD_VALUE);
        due("2: far too narrow", x.width(3, Integer.MIN_VALUE), BAD_VALUE);
        due("2: no post below", x.width(-1, 5), NO_SUCH);
        due("2: no post above", x.width(6, 5), NO_SUCH);
        due("2: the post is looked at first", x.width(6, 0), NO_SUCH);
        same("2: errors change nothing", Checks.state(x), before);
        due("2: the same width is a change too", x.width(5, 42), 42);
        due("2: it is recorded", x.count(8), 4);
    }

    private static void cross() {
        CountedRopes x = new CountedRopes();
        due("3: first", x.cross(0, 0), 1);
        due("3: second", x.cross(0, 11), 2);
        due("3: nothing is pulled", x.cross(0, 5), 3);
        same("3: the word", Checks.word(x, 0), "aFf");
        due("3: the last rope", x.cross(3, 6), 1);
        String before = Checks.state(x);
        for (int rope : NO_ROPES) {
            due("3: no rope", x.cross(rope, 0), NO_SUCH);
        }
        due("3: the rope is looked at first", x.cross(4, 12), NO_SUCH);
        due("3: no crossing below", x.cross(0, -1), BAD_VALUE);
        due("3: no crossing above", x.cross(0, 12), BAD_VALUE);
        same("3: errors change nothing", Checks.state(x), before);
        CountedRopes y = Checks.with("(aB)9", "");
        for (int length = 19; length <= 120; length++) {
            due("3: longer", y.cross(0, 1), length);
        }
        before = Checks.state(y);
        due("3: 121 are too many", y.cross(0, 1), TOO_MANY);
        due("3: the value is looked at before the room", y.cross(0, 12), BAD_VALUE);
        same("3: it stays at 120", Checks.state(y), before);
    }

    private static void back() {
        CountedRopes x = Checks.with("abcdef");
        due("4: one", x.back(0, 1), 5);
        due("4: two", x.back(0, 2), 3);
        same("4: from the end", Checks.word(x, 0), "abc");
        String before = Checks.state(x);
        due("4: more than it has", x.back(0, 4), NOT_POSSIBLE);
        due("4: as many as a rope can have", x.back(0, 120), NOT_POSSIBLE);
        due("4: none", x.back(0, 0), BAD_VALUE);
        due("4: 121", x.back(0, 121), BAD_VALUE);
        due("4: below none", x.back(0, -1), BAD_VALUE);
        due("4: far below", x.back(0, Integer.MIN_VALUE), BAD_VALUE);
        for (int rope : NO_ROPES) {
            due("4: no rope", x.back(rope, 0), NO_SUCH);
        }
        due("4: an empty rope", x.back(1, 1), NOT_POSSIBLE);
        same("4: errors change nothing", Checks.state(x), before);
        due("4: all", x.back(0, 3), 0);
        due("4: one change more", x.undo() >= 0 ? x.ofRope(0, 0) : -9, 3);
        CountedRopes y = Checks.with("(((abcd)5)6)");
        due("4: all of the 120", y.back(0, 120), 0);
    }

    private static void pull() {
        CountedRopes x = Checks.with("abBAcDdf", "aba", "aAaAa");
        due("5: three pairs", x.pull(0), 3);
        same("5: what is left", Checks.word(x, 0), "cf");
        due("5: nothing to take", x.pull(1), 0);
        same("5: it stays", Checks.word(x, 1), "aba");
        due("5: the same post in a row", x.pull(2), 2);
        same("5: one is left", Checks.word(x, 2), "a");
        due("5: an empty rope", x.pull(3), 0);
        due("5: each was a change", x.count(8), 6);
        due("5: the pulled rope comes back", x.undo() + x.undo(), 9);
        same("5: as it was", Checks.word(x, 2), "aAaAa");
        String before = Checks.state(x);
        for (int rope : NO_ROPES) {
            due("5: no rope", x.pull(rope), NO_SUCH);
        }
        same("5: errors change nothing", Checks.state(x), before);
        CountedRopes y = Checks.with("aab", "abBba", "AabB");
        due("5: the same side does not cancel", y.pull(0), 0);
        due("5: one pair of two that overlap", y.pull(1), 1);
        same("5: whichever pair it was", Checks.word(y, 1), "aba");
        due("5: all of it", y.pull(2), 2);
        due("5: nothing is left", y.ofRope(2, 0), 0);
    }

    private static void join() {
        CountedRopes x = Checks.with("ab", "BAc");
        due("6: two ropes", x.join(0, 1), 5);
        same("6: one behind the other, not pulled", Checks.word(x, 0), "abBAc");
        same("6: the other stays", Checks.word(x, 1), "BAc");
        due("6: its own", x.join(1, 1), 6);
        same("6: twice", Checks.word(x, 1), "BAcBAc");
        due("6: an empty one", x.join(1, 2), 6);
        due("6: to an empty one", x.join(2, 0), 5);
        due("6: an empty one to itself", x.join(3, 3), 0);
        CountedRopes y = Checks.with("((abc)5)4", "((abc)5)4", "a");
        due("6: 120 are not too many", y.join(0, 1), 120);
        String before = Checks.state(y);
        due("6: 121 are", y.join(0, 2), TOO_MANY);
        due("6: 121 the other way", y.join(2, 0), TOO_MANY);
        due("6: 240 are", y.join(0, 0), TOO_MANY);
        due("6: an empty one fits", y.ofRope(3, 0), 0);
        for (int rope : NO_ROPES) {
            due("6: no rope", y.join(rope, 0), NO_SUCH);
            due("6: no other", y.join(0, rope), NO_SUCH);
        }
        same("6: errors change nothing", Checks.state(y), before);
        due("6: an empty one is a change", y.join(0, 3), 120);
        due("6: it is recorded", y.count(8), 5);
    }

    private static void turn() {
        CountedRopes x = Checks.with("aBcc", "abA");
        due("7: even", x.turn(0), 4);
        same("7: the turned word", Checks.word(x, 0), "CCbA");
        due("7: odd", x.turn(1), 3);
        same("7: the middle one too", Checks.word(x, 1), "aBA");
        due("7: an empty rope", x.turn(2), 0);
        due("7: each is a change", x.count(8), 5);
        x.turn(0);
        same("7: twice is nothing", Checks.word(x, 0), "aBcc");
        String before = Checks.state(x);
        for (int rope : NO_ROPES) {
            due("7: no rope", x.turn(rope), NO_SUCH);
        }
        same("7: errors change nothing", Checks.state(x), before);
        CountedRopes y = Checks.with("aAb");
        due("7: it is not pulled", y.turn(0), 3);
        same("7: the pair is there still", Checks.word(y, 0), "BaA");
    }

    private static void weave() {
        CountedRopes x = Checks.with("a", "b");
        due("8: four crossings", x.weave(0, 1), 4);
        same("8: the commutator", Checks.word(x, 0), "abAB");
        same("8: the other stays", Checks.word(x, 1), "b");
        due("8: the other way", x.weave(1, 0), 8);
        same("8: its own word first, pulled", Checks.word(x, 1), "babABaBA");
        CountedRopes y = Checks.with("aab", "aab", "abA", "abbA");
        due("8: the same word falls", y.weave(0, 1), 0);
        due("8: ropes that commute", y.weave(2, 3), 0);
        due("8: with an empty one", y.weave(1, 0), 0);
        String before = Checks.state(y);
        for (int rope = 0; rope < 4; rope++) {
            due("8: with itself", y.weave(rope, rope), NO_SUCH);
        }
        for (int rope : NO_ROPES) {
            due("8: no rope", y.weave(rope, 0), NO_SUCH);
            due("8: no other", y.weave(0, rope), NO_SUCH);
        }
        same("8: errors change nothing", Checks.state(y), before);
        CountedRopes z = Checks.with("((ab)5)3", "((cd)5)3");
        due("8: 120 are not too many", z.weave(0, 1), 120);
        before = Checks.state(z);
        due("8: 300 are", z.weave(0, 1), TOO_MANY);
        same("8: errors change nothing here", Checks.state(z), before);
        CountedRopes v = Checks.with("((ab)5)6", "((ab)5)6");
        v.join(0, 0);
        v.join(1, 1);
        due("8: 480 that are pulled to none", v.weave(0, 1), 0);
        CountedRopes w = Checks.with("((ab)5)3a", "((cd)5)3");
        due("8: 122 are too many", w.weave(0, 1), TOO_MANY);
        due("8: and it is no change", w.count(8), 2);
    }

    private static void swap() {
        CountedRopes x = Checks.with("a", "b", "AB", "cf");
        due("9: together", x.swap(0, 0), 3 + 1 + 4 + 2);
        same("9: left at post", Checks.word(x, 0), "abA");
        same("9: left at post + 1", Checks.word(x, 1), "a");
        same("9: those to the right", Checks.word(x, 2), "aBAA");
        same("9: the others stay", Checks.word(x, 3), "cf");
        due("9: back again", x.swap(0, 1), 1 + 1 + 2 + 2);
        same("9: as it was", Checks.word(x, 2), "AB");
        due("9: at the last posts, back", x.swap(4, 1), 1 + 1 + 2 + 4);
        same("9: f becomes three", Checks.word(x, 3), "cFef");
    }

    private static void swapTooLong() {
        CountedRopes x = Checks.with("e", "f", "E", "F");
        due("9: back, all four", x.swap(4, 1), 1 + 3 + 1 + 3);
        same("9: left at post becomes post + 1", Checks.word(x, 0), "f");
        same("9: left at post + 1 becomes three", Checks.word(x, 1), "Fef");
        same("9: right at post", Checks.word(x, 2), "F");
        same("9: right at post + 1", Checks.word(x, 3), "FEf");
        x.width(4, 7);
        x.swap(4, 0);
        due("9: widths stay with the posts' numbers", x.count(4) * 100 + x.count(5), 701);
        same("9: there and back", Checks.word(x, 3), "F");
        CountedRopes y = Checks.with("fFcC", "");
        due("9: all ropes are pulled", y.swap(0, 0), 0);
        String before = Checks.state(y);
        due("9: no post above", y.swap(5, 0), NO_SUCH);
        due("9: no post below", y.swap(-1, 0), NO_SUCH);
        due("9: the post is looked at first", y.swap(5, 2), NO_SUCH);
        due("9: back above", y.swap(0, 2), BAD_VALUE);
        due("9: back below", y.swap(4, -1), BAD_VALUE);
        same("9: errors change nothing", Checks.state(y), before);
        CountedRopes z = Checks.with("fF", "(ac)9(ac)9ac(ac)9c(ac)");
        due("9: 59 crossings", z.ofRope(1, 0), 59);
        due("9: 29 more pairs fit", z.swap(0, 0), 59 + 2 * 29);
        CountedRopes w = Checks.with("fF", "", "((ac)5)6a", "");
        due("9: 61 crossings at hand", w.ofRope(2, 0), 61);
        before = Checks.state(w);
        due("9: 123 are too many", w.swap(0, 0), TOO_MANY);
        same("9: no rope is changed then", Checks.state(w), before);
        for (int rope = 0; rope < 4; rope++) {
            CountedRopes t = new CountedRopes();
            Checks.load(t, rope, "((ac)5)6a");
            due("9: whichever rope it is", t.swap(0, 0), TOO_MANY);
            due("9: the other way it is renamed", t.swap(0, 1), 61);
        }
        CountedRopes v = Checks.with("((ac)5)6");
        due("9: 120 are not", v.swap(0, 0), 120);
        CountedRopes u = Checks.with("a9a9a9a9a9a9a9a9a9a9");
        due("9: 90 in a row", u.ofRope(0, 0), 90);
        due("9: only what is pulled counts", u.swap(0, 0), 92);
    }

    private static void put() {
        CountedRopes x = new CountedRopes();
        due("10: one character", x.put('a'), 1);
        due("10: two", x.put(Checks.number("bc")), 3);
        due("10: eight", x.put(Checks.number("defABCDE")), 11);
        due("10: the lowest 8 bits are the last", x.load(0), 11);
        same("10: in their order", Checks.word(x, 0), "abcdefABCDE");
        due("10: no change is recorded for it", x.count(8), 1);
        due("10: the first sign", x.put(33), 1);
        due("10: the last sign", x.put(126), 2);
        String before = Checks.state(x);
        due("10: none", x.put(0), BAD_VALUE);
        due("10: a blank", x.put(32), BAD_VALUE);
        due("10: 127", x.put(127), BAD_VALUE);
        due("10: 255", x.put(255), BAD_VALUE);
        due("10: a negative number", x.put(-1L), BAD_VALUE);
        due("10: the highest bit", x.put(Long.MIN_VALUE), BAD_VALUE);
        due("10: the highest bit before seven good ones", x.put(Long.MIN_VALUE | Checks.number("aaaaaaaa")), BAD_VALUE);
        due("10: none at the end", x.put((long) 'a' << 8), BAD_VALUE);
        due("10: a gap", x.put((long) 'a' << 16 | 'b'), BAD_VALUE);
        due("10: something far above a gap", x.put(1L << 56 | 'b'), BAD_VALUE);
        due("10: a bad one in the middle", x.put((long) 'a' << 16 | 10 << 8 | 'b'), BAD_VALUE);
        due("10: a bad one in front", x.put((long) 128 << 8 | 'b'), BAD_VALUE);
        same("10: errors change nothing", Checks.state(x), before);
        x.wipe();
        Checks.put(x, Checks.times("a", 53));
        due("10: 61 are too many", x.put(Checks.number("aaaaaaaa")), TOO_MANY);
        due("10: a bad one is looked at first", x.put(Checks.number("aaaaaaa ")), BAD_VALUE);
        due("10: the pad stays", x.count(7), 53);
        due("10: 60 are not too many", x.put(Checks.number("aaaaaaa")), 60);
        due("10: one more is", x.put('a'), TOO_MANY);
    }

    private static void wipe() {
        CountedRopes x = new CountedRopes();
        due("11: empty", x.wipe(), 0);
        Checks.put(x, "abc");
        due("11: three", x.wipe(), 3);
        due("11: then none", x.count(7), 0);
        due("11: and again", x.wipe(), 0);
        due("11: no change", x.count(8), 0);
        Checks.put(x, "d");
        x.load(0);
        same("11: nothing of the old text is left", Checks.word(x, 0), "d");
        Checks.put(x, Checks.times("a", 60));
        due("11: sixty", x.wipe(), 60);
    }

    private static void faultDue(String text, int want) {
        CountedRopes x = new CountedRopes();
        Checks.put(x, text);
        due("12: fault of " + text, x.fault(), want);
        due("12: and again", x.fault(), want);
        due("12: the pad stays", x.count(7), text.length());
        due("12: load tells it too", x.load(0), want == NONE ? x.ofRope(0, 0) : BAD_TEXT);
    }

    private static void fault() {
        faultDue("", 0);
        for (String good : new String[] {"a", "f", "A", "F", "ab", "a'", "a2", "a9", "a'9", "a'b2c'3", "(a)", "(a)'2", "[a,b]", "[a,b]'2",
            "[ab'2,(c)3]d", "((a))", "(((a)b)c)d", "a(b)[c,d]"}) {
            faultDue(good, NONE);
        }
        faultDue("g", 0);
        faultDue("G", 0);
        faultDue("ag", 1);
        faultDue("'", 0);
        faultDue("2", 0);
        faultDue("a1", 1);
        faultDue("a0", 1);
        faultDue("a22", 2);
        faultDue("a''", 2);
        faultDue("a2'", 2);
        faultDue("a'2'", 3);
        faultDue("a'22", 3);
        faultDue("(", 1);
        faultDue("(a", 2);
        faultDue("()", 1);
        faultDue(")", 0);
        faultDue("a)", 1);
        faultDue("(a))", 3);
        faultDue("(a]", 2);
        faultDue("(a,b)", 2);
        faultDue("a,b", 1);
        faultDue(",", 0);
        faultDue("[", 1);
        faultDue("[]", 1);
        faultDue("[a]", 2);
        faultDue("[a", 2);
        faultDue("[,a]", 1);
        faultDue("[a,]", 3);
        faultDue("[a,", 3);
        faultDue("[a,b", 4);
        faultDue("[a,b,c]", 4);
        faultDue("[a,b)", 4);
        faultDue("[a)", 2);
        faultDue("[(a,b)]", 3);
        faultDue("([a,b)]", 5);
        faultDue("('a)", 1);
        faultDue("(2a)", 1);
        faultDue("[a,'b]", 3);
        faultDue("a{", 1);
        faultDue("a~", 1);
    }

    private static void faultDepth() {
        faultDue("((((a))))", NONE);
        faultDue("(((((a)))))", 4);
        faultDue("[[[[a,b],c],d],e]", NONE);
        faultDue("[a,[b,[c,[d,e]]]]", NONE);
        faultDue("[[[[[a,b],c],d],e],f]", 4);
        faultDue("[a,(b[c,(d)])]", NONE);
        faultDue("[a,(b[c,(d(e))])]", 10);
        faultDue("[a,(b[c,(d[e,f])])]", 10);
        faultDue("((((a)b(c))))(d)", NONE);
        faultDue(Checks.times("a", 60), NONE);
        faultDue(Checks.times("a", 59) + "(", 60);
        faultDue(Checks.times("a", 59) + ")", 59);
    }

    private static void loadDue(String text, String want) {
        CountedRopes x = new CountedRopes();
        Checks.put(x, text);
        due("13: load " + text, x.load(2), want.length());
        same("13: word of " + text, Checks.word(x, 2), want);
        due("13: the pad is empty", x.count(7), 0);
        due("13: one change", x.count(8), 1);
    }

    private static void load() {
        loadDue("abcdefABCDEF", "abcdefABCDEF");
        loadDue("aA", "aA");
        loadDue("a'", "A");
        loadDue("B'", "b");
        loadDue("a3", "aaa");
        loadDue("a'2b9", "AAbbbbbbbbb");
        loadDue("(ab)'", "BA");
        loadDue("(abC)'2", "cBAcBA");
        loadDue("ab'", "aB");
        loadDue("ab2", "abb");
        loadDue("[a,b]", "abAB");
        loadDue("[ab,c]", "abcBAC");
        loadDue("[a,bc]d", "abcACBd");
        loadDue("[a,b]'", "baBA");
        loadDue("[a,b]'2c", "baBAbaBAc");
        loadDue("[a2,B']", "aabAAB");
        loadDue("[[a,b],c]", "abABcbaBAC");
        loadDue("[a,[b,c]]", "abcBCAcbCB");
        loadDue("e((a)2(b)'c)2f", "eaaBcaaBcf");
        loadDue("((((a2)2)2)2)2", Checks.times("a", 32));
        loadDue("d[(a)(b),c'](e)", "dabCBAce");
        CountedRopes x = Checks.with("ab");
        Checks.put(x, "cd");
        due("13: in place of the old one", x.load(0), 2);
        same("13: the new word", Checks.word(x, 0), "cd");
        due("13: the pad does not come back", x.undo() * 10 + x.count(7), 10);
        same("13: the old word does", Checks.word(x, 0), "ab");
        String before = Checks.state(x);
        due("13: an empty pad has a fault", x.load(0), BAD_TEXT);
        Checks.put(x, "a(");
        for (int rope : NO_ROPES) {
            due("13: the rope is looked at first", x.load(rope), NO_SUCH);
        }
        due("13: a fault", x.load(0), BAD_TEXT);
        due("13: the pad stays", x.wipe(), 2);
        same("13: errors change nothing", Checks.state(x), before);
    }

    private static void loadTooLong() {
        CountedRopes x = new CountedRopes();
        due("13: 120", Checks.load(x, 0, "((ab)5(cd)5)6"), 120);
        for (String text : new String[] {"((ab)5(cd)5)6a", "((((a9)9)9)9)9", "[((ab)5)4,(cd)9(cd)2]", "[((ab)5)9,((ab)5)9]", "((((a9)9)9)9)'9(b)9"}) {
            String before = Checks.outline(x);
            x.wipe();
            Checks.put(x, text);
            due("13: no fault in " + text, x.fault(), NONE);
            due("13: too many in " + text, x.load(1), TOO_MANY);
            due("13: the pad stays", x.wipe(), text.length());
            same("13: nothing is changed", Checks.outline(x), before);
        }
        due("13: 120 by a bracket", Checks.load(x, 0, "[((ab)5)4,(cd)9cd]"), 120);
        due("13: 122 by a bracket", Checks.load(x, 0, "[((ab)5)4,(cd)9cde]"), TOO_MANY);
        due("13: it counts before it is pulled", Checks.load(x, 0, "((aA)9)7"), TOO_MANY);
    }

    private static void crossing() {
        CountedRopes x = Checks.with("aF");
        due("14: left", x.crossing(0, 0), 0);
        due("14: right", x.crossing(0, 1), 11);
        due("14: behind the last", x.crossing(0, 2), NO_SUCH);
        due("14: before the first", x.crossing(0, -1), NO_SUCH);
        due("14: far away", x.crossing(0, Integer.MAX_VALUE), NO_SUCH);
        due("14: far below", x.crossing(0, Integer.MIN_VALUE), NO_SUCH);
        due("14: an empty rope", x.crossing(1, 0), NO_SUCH);
        for (int rope : NO_ROPES) {
            due("14: no rope", x.crossing(rope, 0), NO_SUCH);
        }
        x.back(0, 1);
        due("14: what was taken is gone", x.crossing(0, 1), NO_SUCH);
        due("14: the last of 120", Checks.load(x, 0, "((ab)5(cd)5)6") + x.crossing(0, 119) + x.crossing(0, 120), 120 + 3 - 1);
    }

    private static void ofRopeDue(String text, int... wants) {
        CountedRopes x = Checks.with("", text);
        x.width(0, 10);
        x.width(5, 99);
        String before = Checks.state(x);
        for (int what = 0; what < wants.length; what++) {
            due("15: " + what + " of " + text, x.ofRope(1, what), wants[what]);
        }
        x.cross(2, 2);
        for (int what = wants.length - 1; what >= 0; what--) {
            x.falls(2, 0);
            x.least(2, 0);
            due("15: after other calls " + what + " of " + text, x.ofRope(1, what), wants[what]);
        }
        x.undo();
        same("15: nothing changes", Checks.state(x), before);
    }

    private static void ofRope() {
        ofRopeDue("", 0, 0, 0, 0, 0, 0, 0, NONE, 1);
        ofRopeDue("a", 1, 10, 1, 10, 1, 1, 1, NONE, 0);
        ofRopeDue("aA", 2, 20, 0, 0, 0, 0, 0, 0, 1);
        ofRopeDue("abA", 3, 21, 3, 21, 1, 1, 2, NONE, 0);
        ofRopeDue("abFfA", 5, 219, 3, 21, 1, 1, 2, 2, 0);
        ofRopeDue("abab", 4, 22, 4, 22, 4, 2, 3, NONE, 0);
        ofRopeDue("cababC", 6, 24, 6, 24, 4, 2, 3, NONE, 0);
        ofRopeDue("ababa", 5, 32, 5, 32, 5, 1, 3, NONE, 0);
        ofRopeDue("aabaab", 6, 42, 6, 42, 6, 2, 3, NONE, 0);
        ofRopeDue("baabaa", 6, 42, 6, 42, 6, 2, 3, NONE, 0);
        ofRopeDue("F6", 6, 594, 6, 594, 6, 6, 32, NONE, 0);
        ofRopeDue("bBaA", 4, 22, 0, 0, 0, 0, 0, 0, 1);
        ofRopeDue("cbaABC", 6, 24, 0, 0, 0, 0, 0, 2, 1);
        ofRopeDue("aF", 2, 109, 2, 109, 2, 1, 33, NONE, 0);
        ofRopeDue("abB", 3, 12, 1, 10, 1, 1, 1, 1, 0);
        ofRopeDue("abcdef", 6, 113, 6, 113, 6, 1, 63, NONE, 0);
        CountedRopes x = Checks.with("a");
        due("15: what below", x.ofRope(0, -1), BAD_VALUE);
        due("15: what above", x.ofRope(0, 9), BAD_VALUE);
        due("15: what far above", x.ofRope(0, Integer.MAX_VALUE), BAD_VALUE);
        for (int rope : NO_ROPES) {
            due("15: no rope", x.ofRope(rope, 0), NO_SUCH);
            due("15: the rope is looked at first", x.ofRope(rope, 9), NO_SUCH);
        }
        CountedRopes y = Checks.with("((ab)5(ab)5)6");
        due("15: a power of 60", y.ofRope(0, 5), 60);
    }

    private static void winds() {
        CountedRopes x = Checks.with("aabAcAAAcFF");
        due("16: more to the right", x.winds(0, 0), 998);
        due("16: one", x.winds(0, 1), 1001);
        due("16: two", x.winds(0, 2), 1002);
        due("16: none", x.winds(0, 3), 1000);
        due("16: to the right", x.winds(0, 5), 998);
        due("16: an empty rope", x.winds(1, 0), 1000);
        due("16: no post below", x.winds(0, -1), NO_SUCH);
        due("16: no post above", x.winds(0, 6), NO_SUCH);
        for (int rope : NO_ROPES) {
            due("16: no rope", x.winds(rope, 0), NO_SUCH);
        }
        Checks.load(x, 0, "((FF)5(FF)6)5F9F");
        due("16: 120 to the right", x.winds(0, 5), 880);
    }

    private static void leastDue(String text, String want) {
        CountedRopes x = Checks.with(text);
        String before = Checks.state(x);
        same("17: least form of " + text, Checks.least(x, 0), want);
        due("17: no place behind it", x.least(0, want.length()), NO_SUCH);
        same("17: nothing changes", Checks.state(x), before);
    }

    private static void least() {
        leastDue("a", "a");
        leastDue("ba", "ab");
        leastDue("bA", "bA");
        leastDue("Ab", "bA");
        leastDue("cabA", "abAc");
        leastDue("cabC", "ab");
        leastDue("cbaC", "ab");
        leastDue("cbBaC", "a");
        leastDue("aA", "");
        leastDue("baabaa", "aabaab");
        leastDue("abaab", "aabab");
        leastDue("babaab", "aabbab");
        leastDue("FaE", "aEF");
        leastDue("FAE", "AEF");
        leastDue("acab", "abac");
        leastDue("ABab", "abAB");
        leastDue("BAfe", "eBAf");
        CountedRopes x = Checks.with("ba");
        due("17: before the first", x.least(0, -1), NO_SUCH);
        due("17: far above", x.least(0, Integer.MAX_VALUE), NO_SUCH);
        due("17: far below", x.least(0, Integer.MIN_VALUE), NO_SUCH);
        due("17: an empty rope", x.least(3, 0), NO_SUCH);
        for (int rope : NO_ROPES) {
            due("17: no rope", x.least(rope, 0), NO_SUCH);
        }
    }

    private static void count() {
        CountedRopes x = Checks.with("ab", "cdC");
        for (int post = 0; post < 6; post++) {
            x.width(post, 10 + post);
        }
        for (int post = 0; post < 6; post++) {
            due("18: width", x.count(post), 10 + post);
        }
        due("18: all crossings, not pulled", x.count(6), 5);
        Checks.put(x, "abc");
        due("18: the pad", x.count(7), 3);
        due("18: six changes of eight can be undone", x.count(8), 6);
        x.undo();
        due("18: then five", x.count(8), 5);
        due("18: what below", x.count(-1), BAD_VALUE);
        due("18: what above", x.count(9), BAD_VALUE);
        due("18: what far above", x.count(Integer.MAX_VALUE), BAD_VALUE);
        due("18: what far below", x.count(Integer.MIN_VALUE), BAD_VALUE);
    }

    private static void falls() {
        CountedRopes x = Checks.with("[a,b]", "cC", "acAbC");
        due("19: as it is", x.falls(0, 0), 0);
        due("19: without the first", x.falls(0, 1), 1);
        due("19: without the second", x.falls(0, 2), 1);
        due("19: without another", x.falls(0, 4), 0);
        due("19: without all", x.falls(0, 63), 1);
        due("19: it falls already", x.falls(1, 0), 1);
        due("19: an empty rope", x.falls(3, 0), 1);
        due("19: one is not enough", x.falls(2, 2), 0);
        due("19: the others cancel then", x.falls(2, 3), 1);
        due("19: no set below", x.falls(0, -1), NO_SUCH);
        due("19: no set above", x.falls(0, 64), NO_SUCH);
        for (int rope : NO_ROPES) {
            due("19: no rope", x.falls(rope, 0), NO_SUCH);
        }
        same("19: nothing changes", Checks.word(x, 2), "acAbC");
    }

    private static void fellingDue(String text, int many, int best) {
        CountedRopes x = Checks.with(text);
        String before = Checks.state(x);
        due("20: how many for " + text, x.felling(0, 0), many);
        due("20: the best for " + text, x.felling(0, 1), best);
        same("20: nothing changes", Checks.state(x), before);
    }

    private static void felling() {
        fellingDue("", 1, 0);
        fellingDue("aA", 1, 0);
        fellingDue("a", 1, 1);
        fellingDue("f", 1, 32);
        fellingDue("ab", 1, 3);
        fellingDue("abcdef", 1, 63);
        fellingDue("[a,b]", 2, 1);
        fellingDue("[b,a]", 2, 1);
        fellingDue("[[a,b],c]", 3, 1);
        fellingDue("[f,e]d", 2, 24);
        fellingDue("[ab,f]", 2, 32);
        fellingDue("[ab,cd]", 2, 3);
        fellingDue("[a,b][b,c]", 2, 2);
        fellingDue("[a,b][c,d]", 4, 5);
        fellingDue("acAbC", 2, 3);
        CountedRopes x = Checks.with("a");
        due("20: what below", x.felling(0, -1), BAD_VALUE);
        due("20: what above", x.felling(0, 2), BAD_VALUE);
        for (int rope : NO_ROPES) {
            due("20: no rope", x.felling(rope, 0), NO_SUCH);
            due("20: the rope is looked at first", x.felling(rope, 2), NO_SUCH);
        }
    }

    private static void bothDue(String one, String two, int alike, int alikeTurned, int commute, int same) {
        CountedRopes x = Checks.with(one, two);
        String before = Checks.state(x);
        int[] wants = {alike, alikeTurned, commute, same};
        for (int what = 0; what < 4; what++) {
            due("21: " + what + " of " + one + " and " + two, x.both(0, 1, what), wants[what]);
            due("21: the other way", x.both(1, 0, what), wants[what]);
        }
        same("21: nothing changes", Checks.state(x), before);
    }

    private static void both() {
        bothDue("", "", 1, 1, 1, 1);
        bothDue("", "aA", 1, 1, 1, 1);
        bothDue("", "a", 0, 0, 1, 0);
        bothDue("a", "a", 1, 0, 1, 1);
        bothDue("a", "A", 0, 1, 1, 0);
        bothDue("ab", "ba", 1, 0, 0, 0);
        bothDue("ab", "cabC", 1, 0, 0, 0);
        bothDue("ab", "abCc", 1, 0, 1, 1);
        bothDue("ab", "AB", 0, 1, 0, 0);
        bothDue("ab", "BA", 0, 1, 1, 0);
        bothDue("aab", "aba", 1, 0, 0, 0);
        bothDue("abc", "acb", 0, 0, 0, 0);
        bothDue("abab", "(ab)'3", 0, 0, 1, 0);
        bothDue("cab2C", "(cabC)2", 0, 0, 0, 0);
        bothDue("c(ab)2C", "(cabC)3", 0, 0, 1, 0);
        bothDue("[a,b]", "[b,a]", 0, 1, 1, 0);
        bothDue("[a,b]", "[b,A]", 1, 0, 0, 0);
        bothDue("abA", "b", 1, 0, 0, 0);
        CountedRopes x = Checks.with("[a,b]", "ab");
        due("21: alike to itself", x.both(0, 0, 0), 1);
        due("21: not alike to itself turned", x.both(0, 0, 1), 0);
        due("21: commutes with itself", x.both(0, 0, 2), 1);
        due("21: the same as itself", x.both(0, 0, 3), 1);
        due("21: what below", x.both(0, 1, -1), BAD_VALUE);
        due("21: what above", x.both(0, 1, 4), BAD_VALUE);
        for (int rope : NO_ROPES) {
            due("21: no rope", x.both(rope, 0, 0), NO_SUCH);
            due("21: no other", x.both(0, rope, 0), NO_SUCH);
            due("21: the ropes are looked at first", x.both(0, rope, 4), NO_SUCH);
        }
        CountedRopes y = Checks.with("((ab)5)6", "((ab)5)6");
        y.join(0, 0);
        y.join(1, 1);
        y.turn(1);
        due("21: long ones commute", y.both(0, 1, 2), 1);
        due("21: long ones turned", y.both(0, 1, 1), 1);
        due("21: long ones are not the same", y.both(0, 1, 3), 0);
    }

    private static void cutsDue(String text, int want) {
        CountedRopes x = Checks.with(text);
        String before = Checks.state(x);
        due("22: cuts of " + text, x.cuts(0), want);
        due("22: of another rope", x.cuts(1), 0);
        due("22: cuts again of " + text, x.cuts(0), want);
        same("22: nothing changes", Checks.state(x), before);
    }

    private static void cuts() {
        cutsDue("", 0);
        cutsDue("aA", 0);
        cutsDue("abBA", 0);
        cutsDue("a", 1);
        cutsDue("aa", 2);
        cutsDue("ab", 2);
        cutsDue("abA", 1);
        cutsDue("abAA", 2);
        cutsDue("abAB", 2);
        cutsDue("[a,b]2", 4);
        cutsDue("[a,b]3", 4);
        cutsDue("[[a,b],c]", 2);
        cutsDue("abcABC", 4);
        cutsDue("abcAdBeC", 6);
        cutsDue("bAabCBc", 3);
        cutsDue("bcAaCdB", 1);
        cutsDue("a9b9A9B9", 18);
        cutsDue("ca2bAdAeb", 5);
        cutsDue("abaBA", 1);
        cutsDue("abacABaC", 4);
        CountedRopes x = Checks.with("((ab)5(ab)5)6");
        due("22: nothing cancels", x.cuts(0), 120);
        for (int rope : NO_ROPES) {
            due("22: no rope", x.cuts(rope), NO_SUCH);
        }
    }

    private static void ifSwapped() {
        CountedRopes x = Checks.with("a", "b", "AB", "cffF");
        String before = Checks.state(x);
        due("23: as by swap", x.ifSwapped(0, 0), 3 + 1 + 4 + 2);
        due("23: back", x.ifSwapped(0, 1), 1 + 3 + 4 + 2);
        due("23: at other posts", x.ifSwapped(1, 0), 1 + 3 + 4 + 2);
        due("23: at posts without ropes", x.ifSwapped(3, 0), 6);
        due("23: at the last", x.ifSwapped(4, 0), 6);
        due("23: no post below", x.ifSwapped(-1, 0), NO_SUCH);
        due("23: no post above", x.ifSwapped(5, 0), NO_SUCH);
        due("23: the post is looked at first", x.ifSwapped(5, 2), NO_SUCH);
        due("23: back below", x.ifSwapped(0, -1), BAD_VALUE);
        due("23: back above", x.ifSwapped(0, 2), BAD_VALUE);
        same("23: nothing changes", Checks.state(x), before);
        due("23: swap answers the same", x.swap(0, 0), 10);
        CountedRopes y = Checks.with("((ac)5)6", "((ac)5)6", "((ac)5)6", "((ac)5)6");
        for (int rope = 0; rope < 4; rope++) {
            y.join(rope, rope);
        }
        due("23: also beyond 120", y.ifSwapped(0, 0), 4 * 240);
        due("23: swap does not", y.swap(0, 0), TOO_MANY);
        CountedRopes z = Checks.with("((ac)5)6");
        z.join(0, 0);
        due("23: a rope that doubles", z.ifSwapped(0, 0), 240);
        due("23: a rope that is renamed", z.ifSwapped(0, 1), 120);
    }

    private static void bestSwap() {
        CountedRopes x = new CountedRopes();
        due("24: none has the lowest post", x.bestSwap(0), 0);
        due("24: and back 0", x.bestSwap(1), 0);
        due("24: and no crossings", x.bestSwap(2), 0);
        bestDue("abA", 0, 1, 1);
        bestDue("a", 0, 1, 1);
        bestDue("b", 0, 0, 1);
        bestDue("ab", 0, 0, 2);
        bestDue("bcB", 1, 1, 1);
        bestDue("fEF", 0, 0, 3);
        bestDue("Fef", 4, 0, 1);
        bestDue("eFE", 4, 1, 1);
        due("24: what below", x.bestSwap(-1), BAD_VALUE);
        due("24: what above", x.bestSwap(3), BAD_VALUE);
        CountedRopes y = Checks.with("((ab)5)6", "((cd)5)6", "((ef)5)6");
        for (int rope = 0; rope < 3; rope++) {
            y.join(rope, rope);
        }
        String before = Checks.outline(y);
        due("24: fewest with long ropes", y.bestSwap(2), y.ifSwapped(y.bestSwap(0), y.bestSwap(1)));
        same("24: nothing changes", Checks.outline(y), before);
    }

    private static void bestDue(String text, int post, int back, int many) {
        CountedRopes x = Checks.with(text);
        due("24: post of " + text, x.bestSwap(0), post);
        due("24: back of " + text, x.bestSwap(1), back);
        due("24: fewest of " + text, x.bestSwap(2), many);
    }

    private static void undo() {
        CountedRopes x = new CountedRopes();
        due("25: nothing to undo", x.undo(), NOT_POSSIBLE);
        for (int post = 0; post < 6; post++) {
            x.width(post, 30 + post);
            due("25: the width is undone", x.undo(), 0);
            due("25: it is as before", x.count(post), 1);
        }
        x.width(2, 30);
        x.cross(1, 4);
        due("25: the crossing is undone", x.undo(), 1);
        due("25: it is gone", x.ofRope(1, 0), 0);
        due("25: the width is there still", x.count(2), 30);
        due("25: then the width", x.undo(), 0);
        due("25: it is 1 again", x.count(2), 1);
        due("25: nothing is left to undo", x.undo(), NOT_POSSIBLE);
        x.cross(0, 0);
        x.cross(0, 12);
        x.cross(7, 0);
        x.put('a');
        x.fault();
        x.save(0);
        x.falls(0, 1);
        x.ifSwapped(0, 0);
        due("25: only changes are recorded", x.count(8), 1);
        due("25: the pad is no part of it", x.undo() + x.count(7), 1);
        due("25: what is saved stays", x.restore(0), 1);
        due("25: and restore can be undone", x.undo(), 0);
        due("25: to nothing", x.count(6), 0);
    }

    private static void undoLimits() {
        CountedRopes x = Checks.with("ab");
        x.undo();
        for (int many = 1; many <= 9; many++) {
            x.cross(0, 0);
            due("25: at most six", x.count(8), Math.min(many, 6));
        }
        for (int left = 5; left >= 0; left--) {
            due("25: one less", x.undo(), left);
            due("25: the rope then", x.ofRope(0, 0), 3 + left);
        }
        due("25: the oldest are dropped", x.undo(), NOT_POSSIBLE);
        due("25: three stay", x.ofRope(0, 0), 3);
        x.cross(0, 1);
        x.cross(0, 2);
        x.undo();
        x.cross(0, 3);
        same("25: after an undo it goes on from there", Checks.word(x, 0), "aaabd");
        due("25: two can be undone", x.undo(), 1);
        same("25: the first", Checks.word(x, 0), "aaab");
        due("25: the second", x.undo(), 0);
        same("25: is there too", Checks.word(x, 0), "aaa");
        eachChange();
    }

    /** Each method that is a change records one state, also if nothing is different then. */
    private static void eachChange() {
        CountedRopes x = Checks.with("a", "b");
        x.undo();
        x.undo();
        x.width(0, 1);
        x.pull(0);
        x.join(0, 1);
        x.turn(0);
        x.weave(0, 1);
        due("25: five changes that change nothing", x.count(8), 5);
        x.undo();
        x.undo();
        x.undo();
        x.swap(0, 0);
        x.cross(3, 3);
        x.save(1);
        x.restore(1);
        due("25: swap and restore too", x.count(8), 5);
        x.back(3, 1);
        due("25: and back", x.count(8), 6);
        x.undo();
        due("25: the crossing is back", x.ofRope(3, 0), 1);
    }

    private static void save() {
        CountedRopes x = Checks.with("ab", "c");
        x.width(3, 33);
        int before = x.count(8);
        due("26: all crossings", x.save(0), 3);
        due("26: no change", x.count(8), before);
        x.cross(0, 0);
        due("26: the other slot", x.save(1), 4);
        due("26: no slot below", x.save(-1), BAD_VALUE);
        due("26: no slot above", x.save(2), BAD_VALUE);
        due("26: the first slot is kept", x.restore(0), 3);
        due("26: the second too", x.restore(1), 4);
        x.cross(0, 0);
        due("26: overwritten", x.save(0), 5);
        x.restore(1);
        due("26: by the later one", x.restore(0), 5);
        due("26: widths too", x.count(3), 33);
    }

    private static void restore() {
        CountedRopes x = Checks.with("ab");
        x.width(1, 5);
        due("27: nothing saved", x.restore(0), NOT_POSSIBLE);
        x.save(0);
        due("27: nothing saved in the other", x.restore(1), NOT_POSSIBLE);
        due("27: no slot below", x.restore(-1), BAD_VALUE);
        due("27: no slot above", x.restore(2), BAD_VALUE);
        due("27: errors are no change", x.count(8), 2);
        x.width(1, 6);
        x.back(0, 2);
        x.cross(2, 7);
        Checks.put(x, "e");
        due("27: as saved", x.restore(0), 2);
        same("27: the ropes", Checks.word(x, 0) + "," + Checks.word(x, 2), "ab,");
        due("27: the widths", x.count(1), 5);
        due("27: the pad stays", x.count(7), 1);
        due("27: it is a change", x.count(8), 6);
        x.cross(0, 3);
        due("27: the slot keeps it", x.restore(0), 2);
        due("27: undone", x.undo(), 5);
        same("27: what was before", Checks.word(x, 0), "abd");
        due("27: undone once more", x.undo(), 4);
        due("27: and the restore before", x.undo(), 3);
        same("27: what was before that", Checks.word(x, 0) + "," + Checks.word(x, 2), ",B");
        due("27: the width before that", x.count(1), 6);
    }
}
