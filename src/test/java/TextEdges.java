/** The sentences of promises 10 to 13: texts. */
final class TextEdges {
    private static final int NO_SUCH = -1, BAD_VALUE = -2, BAD_TEXT = -3, TOO_MANY = -4, NONE = -6;
    /** 120 crossings in few characters. */
    private static final String FULL = "((ab)5(cd)5)6";

    private TextEdges() {
    }

    static void all() {
        put();
        putNumbers();
        putRefused();
        wipe();
        fault();
        load();
        loadRefused();
    }

    private static void due(String what, long got, long want) {
        Checks.due(what, got, want);
    }

    private static void same(String what, String got, String want) {
        Checks.due(what, got, want);
    }

    private static String loaded(CountedRopes x) {
        x.load(0);
        return Checks.word(x, 0);
    }

    private static void put() {
        Edges.edge(10, "Appends characters to the pad.", () -> {
            CountedRopes x = new CountedRopes();
            x.put('a');
            x.put(Checks.number("bc"));
            x.put('d');
            same("behind those that are there", loaded(x), "abcd");
            x.put('e');
            same("to an empty pad again", loaded(x), "e");
        });
        Edges.edge(10, "They are given as a number: its lowest 8 bits are the last character, the next 8 bits the one before, and so on", () -> {
            CountedRopes x = new CountedRopes();
            x.put('a' | 'b' << 8 | 'c' << 16);
            same("three", loaded(x), "cba");
            x.put(0x6162636465664142L);
            same("eight", loaded(x), "abcdefAB");
            x.put(0x6162636465L);
            same("five, above 32 bits", loaded(x), "abcde");
            x.put(0x64434261L);
            same("four", loaded(x), "dCBa");
        });
        Edges.edge(10, "1 to 8 characters", () -> {
            for (int many = 1; many <= 8; many++) {
                CountedRopes x = new CountedRopes();
                due("so many", x.put(Checks.number("abcdefAB".substring(0, many))), many);
                same("those", loaded(x), "abcdefAB".substring(0, many));
            }
        });
        Edges.edge(10, "Returns the length of the pad then", () -> {
            CountedRopes x = new CountedRopes();
            due("one", x.put('!'), 1);
            due("three", x.put(Checks.number("~~")), 3);
            due("eleven", x.put(Checks.number("abcdefgh")), 11);
            x.wipe();
            due("one again", x.put('a'), 1);
            due("none is a change", x.count(8), 0);
        });
    }

    private static void putDue(long characters, int want) {
        CountedRopes x = Edges.withPad("ab");
        due("put " + Long.toHexString(characters), x.put(characters), want);
        due("the pad's length", x.count(7), want < 0 ? 2 : want);
        CountedRopes y = Edges.fullPad();
        due("put to a full pad", y.put(characters), want < 0 ? want : TOO_MANY);
    }

    private static void putNumbers() {
        Edges.edge(10, "8 bits that are 0 mean that there are no more characters, and everything above them has to be 0, too.", () -> {
            putDue(0x61L, 3);
            putDue(0x0061_6161L, 5);
            putDue(0x0061_0061L, BAD_VALUE);
            putDue(0x6100_6161L, BAD_VALUE);
            putDue(0x6161_0000_0061L, BAD_VALUE);
            putDue(0x6100_6161_6161_6161L, BAD_VALUE);
        });
        Edges.edge(10, "BAD_VALUE if there is no character", () -> {
            putDue(0L, BAD_VALUE);
            putDue(0x6100L, BAD_VALUE);
            putDue(0x6161_6161_6161_6100L, BAD_VALUE);
            putDue(1L << 32, BAD_VALUE);
        });
        Edges.edge(10, "a code is not 33 to 126", () -> {
            for (int place = 0; place < 8; place++) {
                long others = Checks.number("aaaaaaaa") & ~(255L << 8 * place);
                for (int code : new int[] {1, 10, 31, 32, 127, 128, 128 + 'a', 254, 255}) {
                    putDue(others | (long) code << 8 * place, BAD_VALUE);
                    putDue((long) code << 8 * place | others & (1L << 8 * place) - 1, BAD_VALUE);
                }
                for (int code : new int[] {33, 34, 125, 126}) {
                    putDue(others | (long) code << 8 * place, 10);
                    putDue((long) code << 8 * place | others & (1L << 8 * place) - 1, 3 + place);
                }
            }
            putDue(-1L, BAD_VALUE);
            putDue(Long.MIN_VALUE, BAD_VALUE);
            putDue(Long.MAX_VALUE, BAD_VALUE);
        });
    }

    private static void putRefused() {
        Edges.edge(10, "or a bit above 8 bits that are 0 is not 0", () -> {
            for (int bit = 16; bit < 64; bit++) {
                putDue('a' | 1L << bit, BAD_VALUE);
            }
            for (int bit = 24; bit < 64; bit++) {
                putDue('a' | 'b' << 8 | 1L << bit, BAD_VALUE);
            }
            putDue(1L << 63 | 0x61_6161_6161_61L, BAD_VALUE);
            putDue('a' | (long) 'a' << 56, BAD_VALUE);
        });
        Edges.edge(10, "TOO_MANY if the pad would be longer than 60.", () -> {
            for (int many = 1; many <= 8; many++) {
                CountedRopes x = Edges.withPad(Checks.times("a", 61 - many));
                due("61", x.put(Checks.number(Checks.times("b", many))), TOO_MANY);
                due("the pad stays", x.count(7), 61 - many);
                if (many > 1) {
                    due("60", x.put(Checks.number(Checks.times("b", many - 1))), 60);
                }
                due("one more", x.put('b'), TOO_MANY);
                due("eight more", x.put(Checks.number("bbbbbbbb")), TOO_MANY);
                due("one is wiped with the others", x.wipe(), 60);
                due("then there is room", x.put(Checks.number("bbbbbbbb")), 8);
            }
        });
    }

    private static void wipe() {
        Edges.edge(11, "Empties the pad, and returns the length that it had.", () -> {
            CountedRopes x = Edges.withPad("abc");
            due("three", x.wipe(), 3);
            due("none then", x.count(7), 0);
            due("none again", x.wipe(), 0);
            due("an empty text ends too early", x.fault(), 0);
            x.put('d');
            same("nothing of it is left", loaded(x), "d");
            due("sixty", Edges.fullPad().wipe(), 60);
            due("a new pad", new CountedRopes().wipe(), 0);
            CountedRopes y = Edges.withPad("abc");
            y.wipe();
            due("it is no change", y.count(8), 2);
            due("undo does not bring it back", y.undo() + y.count(7), 1);
            CountedRopes z = Edges.withPad("");
            z.save(0);
            CountedRopes v = Edges.withPad("abc");
            v.save(0);
            v.wipe();
            same("nothing else changes", Edges.whole(v), Edges.whole(z));
        });
    }

    private static void fault() {
        Edges.edge(12, "Returns the fault of the pad, NONE if there is none.", () -> {
            CountedRopes x = new CountedRopes();
            due("an empty pad", x.fault(), 0);
            Checks.put(x, "[a,");
            due("it ends too early", x.fault(), 3);
            Checks.put(x, "b]'2");
            due("now it does not", x.fault(), NONE);
            Checks.put(x, "'cd");
            due("a sign that cannot stand there", x.fault(), 7);
            due("asked again", x.fault(), 7);
            due("the pad stays", x.count(7), 10);
            due("sixty characters without one", Edges.fullPad().fault(), NONE);
            due("too long a word is none", Edges.withPad("((((a9)9)9)9)9").fault(), NONE);
        });
        Edges.edge(12, "Returns the fault of the pad", () -> {
            Edges.onlyAsks(CountedRopes::fault);
            Edges.refused(() -> Edges.withPad("ab("), 3, CountedRopes::fault);
        });
    }

    private static void load() {
        Edges.edge(13, "Reads the pad as the word of a rope (it is not pulled), in place of the one that it has, and empties the pad.", () -> {
            CountedRopes x = Checks.with("abcdef", "ab", "c");
            Checks.put(x, "eEF");
            x.load(1);
            same("not pulled", Checks.word(x, 1), "eEF");
            same("of no other rope", Checks.word(x, 0) + Checks.word(x, 2) + Checks.word(x, 3), "abcdefc");
            due("the pad is empty", x.count(7), 0);
            due("it cannot be read twice", x.load(2), BAD_TEXT);
            Checks.put(x, "A");
            x.load(0);
            same("a shorter word in place of a longer one", Checks.word(x, 0), "A");
        });
        Edges.edge(13, "This is a change.", () -> {
            Edges.change(x -> x.load(0));
            Edges.change(x -> x.load(3));
            CountedRopes x = Checks.with("ab");
            Checks.put(x, "cd");
            x.load(0);
            due("undone", x.undo(), 1);
            same("the word is back", Checks.word(x, 0), "ab");
            due("the pad is not", x.count(7), 0);
            Checks.put(x, "ab");
            x.load(0);
            due("the same word is recorded too", x.count(8), 2);
        });
        Edges.edge(13, "Returns how many crossings it has", () -> {
            due("one", Edges.withPad("a").load(0), 1);
            due("four that cancel", Edges.withPad("(aA)2").load(0), 4);
            due("a word, not its text", Edges.withPad("[[a,b],c]'3").load(3), 30);
        });
        Edges.edge(13, "NO_SUCH if there is no such rope", () -> Edges.eachNoSuch(Edges.NO_ROPES, (x, rope) -> x.load(rope)));
    }

    private static void loadRefused() {
        Edges.edge(13, "BAD_TEXT if the pad has a fault", () -> {
            due("an empty one", Edges.withPad("").load(0), BAD_TEXT);
            for (String text : new String[] {"g", "a1", "a''", "(a", "a)", "[a]", "[a,b", "(((((a)))))", "ab,", "a2'", "()"}) {
                CountedRopes x = Edges.withPad(text);
                due(text, x.load(0), BAD_TEXT);
                due("the pad stays", x.count(7), text.length());
                same("the rope stays", Checks.word(x, 0), "ab");
                due("it is no change", x.count(8), 2);
            }
        });
        Edges.edge(13, "TOO_MANY if it would have more than 120.", () -> {
            due("120 are not too many", Edges.withPad(FULL).load(0), 120);
            due("120 of [ ] are not", Edges.withPad("[((ab)5)3,((cd)5)3]").load(0), 120);
            due("120 turned are not", Edges.withPad("(" + FULL + ")'").load(0), 120);
            for (String text : new String[] {FULL + "e", "e" + FULL, "[((ab)5)3a,((cd)5)3]", "[" + FULL + ",a]", "(" + FULL + ")2",
                "((aA)9)7", "((((a9)9)9)9)9", "[[[[a9,b9]9,c9]9,d9]9,e9]9", "((((a9)9)9)9)9((((a9)9)9)9)9((((a9)9)9)9)9"}) {
                CountedRopes x = Edges.withPad(text);
                due(text, x.load(0), TOO_MANY);
                due("the pad stays", x.count(7), text.length());
                same("the rope stays", Checks.word(x, 0), "ab");
                due("it is no change", x.count(8), 2);
                due("it has no fault", x.fault(), NONE);
            }
            CountedRopes y = Checks.with(FULL);
            due("the old word does not count", Checks.load(y, 0, FULL), 120);
            due("nor do the other ropes", Checks.load(y, 3, FULL), 120);
            due("121 by the last character", Checks.load(y, 0, "((ab)5(cd)5)5(ab)9ab2"), TOO_MANY);
            due("120 by the last character", Checks.load(y, 0, "((ab)5(cd)5)5(ab)9b2"), 120);
        });
    }
}
