/** The sentences of promises 25 to 27: undo and saving. */
final class UndoEdges {
    private static final int BAD_VALUE = -2, NOT_POSSIBLE = -5;

    private UndoEdges() {
    }

    static void all() {
        undo();
        history();
        recorded();
        notRecorded();
        dropped();
        undoAnswers();
        save();
        restore();
        restoreAnswers();
    }

    private static void due(String what, long got, long want) {
        Checks.due(what, got, want);
    }

    private static void same(String what, String got, String want) {
        Checks.due(what, got, want);
    }

    private static void undo() {
        Edges.edge(25, "Undoes the latest change: widths and ropes are as they were before it.", () -> {
            CountedRopes x = Checks.with("abB", "ef", "cC", "d");
            for (int post = 0; post < 6; post++) {
                x.width(post, 10 + post);
            }
            String before = Checks.widthsAndRopes(x);
            same("six widths and four ropes", before, "10 11 12 13 14 15 abB ef cC d ");
            x.swap(1, 0);
            x.undo();
            same("all ropes were pulled", Checks.widthsAndRopes(x), before);
            x.save(0);
            x.width(3, 99);
            x.turn(0);
            x.restore(0);
            x.undo();
            same("all were restored", Checks.widthsAndRopes(x), "10 11 12 99 14 15 bBA ef cC d ");
            x.undo();
            same("one rope was turned", Checks.widthsAndRopes(x), "10 11 12 99 14 15 abB ef cC d ");
            x.undo();
            same("one width was changed", Checks.widthsAndRopes(x), before);
            x.back(1, 2);
            x.undo();
            same("a rope was emptied", Checks.widthsAndRopes(x), before);
            x.weave(0, 1);
            x.undo();
            same("a rope became longer", Checks.widthsAndRopes(x), before);
        });
        Edges.edge(25, "Undoes the latest change", () -> {
            CountedRopes x = Checks.with("a");
            x.cross(0, 1);
            Checks.put(x, "ab");
            x.save(1);
            x.fault();
            due("what was put and saved later is none", x.undo(), 1);
            due("the pad stays", x.count(7), 2);
            due("what was saved stays", x.restore(1), 2);
        });
    }

    private static void history() {
        Edges.edge(25, "A history of at most 6 states is kept", () -> {
            CountedRopes x = new CountedRopes();
            for (int many = 1; many <= 20; many++) {
                x.cross(0, many % 6);
                due("so many", x.count(8), Math.min(many, 6));
            }
            for (int left = 5; left >= 0; left--) {
                due("undone", x.undo(), left);
                due("the rope then", x.ofRope(0, 0), 14 + left);
            }
            due("no more", x.undo(), NOT_POSSIBLE);
            due("the rope stays", x.ofRope(0, 0), 14);
        });
        Edges.edge(25, "A history of at most 6 states", () -> {
            CountedRopes x = new CountedRopes();
            int length = 0;
            for (int round = 0; round < 30; round++) {
                x.cross(0, 0);
                x.cross(0, 1);
                x.cross(0, 2);
                x.undo();
                x.undo();
                length++;
                due("changes and undoing in turn", x.count(8), Math.min(round + 1, round < 3 ? 6 : 4));
                due("the rope", x.ofRope(0, 0), length);
            }
        });
    }

    private static void recordedDue(int many, CountedRopes x, Edges.Call call) {
        due("one more", call.on(x) >= 0 ? x.count(8) : -1, many);
    }

    private static void recorded() {
        Edges.edge(25, "each method that is a change, and returns no error, records the state before it "
            + "(also if nothing is different then)", () -> {
            CountedRopes x = new CountedRopes();
            recordedDue(1, x, y -> y.width(0, 1));
            recordedDue(2, x, y -> y.pull(0));
            recordedDue(3, x, y -> y.join(0, 0));
            recordedDue(4, x, y -> y.turn(1));
            recordedDue(5, x, y -> y.weave(2, 3));
            recordedDue(6, x, y -> y.swap(0, 0));
            due("nothing is different", x.undo() + x.undo() + x.undo(), 5 + 4 + 3);
            x.save(0);
            recordedDue(4, x, y -> y.restore(0));
            Checks.put(x, "a");
            recordedDue(5, x, y -> y.load(0));
            Checks.put(x, "a");
            recordedDue(6, x, y -> y.load(0));
            due("the same word again", x.undo() * 10 + x.ofRope(0, 0), 51);
            recordedDue(6, x, y -> y.cross(0, 0));
            x.undo();
            recordedDue(6, x, y -> y.back(0, 1));
        });
        Edges.edge(25, "and returns no error, records the state before it", () -> {
            CountedRopes x = Edges.withPad("a(");
            x.width(6, 1);
            x.width(0, 0);
            x.cross(0, 12);
            x.back(0, 3);
            x.pull(4);
            x.join(0, 4);
            x.turn(-1);
            x.weave(1, 1);
            x.swap(5, 0);
            x.swap(0, 2);
            x.load(0);
            x.restore(0);
            x.restore(2);
            due("two texts were read, no more", x.count(8), 2);
        });
    }

    private static void notRecorded() {
        Edges.edge(25, "each method that is a change", () -> {
            CountedRopes x = Checks.with("abA", "ab");
            x.put('a');
            x.wipe();
            x.fault();
            x.crossing(0, 0);
            x.ofRope(0, 2);
            x.winds(0, 0);
            x.least(0, 0);
            x.count(0);
            x.falls(0, 1);
            x.felling(0, 0);
            x.both(0, 1, 0);
            x.cuts(0);
            x.ifSwapped(0, 0);
            x.bestSwap(0);
            x.save(0);
            due("these are none", x.count(8), 2);
            x.undo();
            due("nor is undo itself", x.count(8), 1);
        });
    }

    private static void dropped() {
        Edges.edge(25, "when one more is recorded, the oldest one is dropped.", () -> {
            CountedRopes x = new CountedRopes();
            x.width(0, 50);
            for (int many = 0; many < 6; many++) {
                x.cross(1, many);
            }
            due("six", x.count(8), 6);
            for (int left = 5; left >= 0; left--) {
                due("undone", x.undo(), left);
            }
            due("none is left", x.undo(), NOT_POSSIBLE);
            due("the crossings are undone", x.ofRope(1, 0), 0);
            due("the width is not", x.count(0), 50);
            x.width(0, 60);
            due("it goes on from there", x.count(8), 1);
            due("and back", x.undo() + x.count(0), 50);
        });
    }

    private static void undoAnswers() {
        Edges.edge(25, "Returns how many changes can be undone then", () -> {
            CountedRopes x = Checks.with("a", "b", "c");
            due("two", x.undo(), 2);
            due("one", x.undo(), 1);
            due("as count tells", x.count(8), 1);
            due("none", x.undo(), 0);
        });
        Edges.edge(25, "NOT_POSSIBLE if there is none.", () -> {
            CountedRopes x = new CountedRopes();
            due("a new object", x.undo(), NOT_POSSIBLE);
            due("again", x.undo(), NOT_POSSIBLE);
            x.cross(0, 3);
            due("one", x.undo(), 0);
            due("not twice", x.undo(), NOT_POSSIBLE);
            due("nothing to do again either", x.ofRope(0, 0) + x.count(8), 0);
            x.put('a');
            x.save(0);
            due("neither put nor save can be undone", x.undo(), NOT_POSSIBLE);
        });
    }

    private static void save() {
        Edges.edge(26, "Saves widths and ropes in a slot, and overwrites what was saved there.", () -> {
            CountedRopes x = Checks.with("abcdef", "e");
            x.width(4, 40);
            x.save(0);
            x.back(0, 5);
            x.width(4, 41);
            x.save(1);
            x.turn(1);
            x.restore(0);
            same("widths and ropes", Checks.widthsAndRopes(x), "1 1 1 1 40 1 abcdef e   ");
            x.restore(1);
            same("each slot its own", Checks.widthsAndRopes(x), "1 1 1 1 41 1 a e   ");
            x.back(1, 1);
            x.save(0);
            x.cross(2, 2);
            x.restore(0);
            same("overwritten by less", Checks.widthsAndRopes(x), "1 1 1 1 41 1 a    ");
            x.restore(1);
            same("the other slot is not", Checks.widthsAndRopes(x), "1 1 1 1 41 1 a e   ");
            due("it is no change", Edges.scene().save(0) + Edges.scene().count(8), 9 + 6);
        });
        Edges.edge(26, "0 or 1", () -> {
            CountedRopes x = Checks.with("ab");
            due("0", x.save(0), 2);
            due("not 1 with it", x.restore(1), NOT_POSSIBLE);
            x.cross(0, 0);
            due("1", x.save(1), 3);
            due("not 0 with it", x.restore(0), 2);
        });
        Edges.edge(26, "Returns the crossings of all ropes together", () -> {
            due("none", new CountedRopes().save(1), 0);
            due("not pulled", Checks.with("aA", "b", "ccc", "dd").save(0), 8);
            String full = "((ab)5(cd)5)6";
            due("480", Checks.with(full, full, full, full).save(0), 480);
        });
        Edges.edge(26, "BAD_VALUE if there is no such slot.", () ->
            Edges.eachBadValue(Edges.NEITHER_0_NOR_1, (x, slot) -> x.save(slot)));
    }

    private static void restore() {
        Edges.edge(27, "Restores what was saved last in a slot, which keeps it.", () -> {
            CountedRopes x = Checks.with("ab", "c");
            x.save(0);
            x.cross(0, 11);
            x.width(2, 20);
            x.save(0);
            x.back(0, 3);
            x.width(2, 21);
            x.cross(3, 3);
            x.restore(0);
            same("what was saved last", Checks.widthsAndRopes(x), "1 1 20 1 1 1 abF c   ");
            x.turn(0);
            x.width(0, 9);
            x.restore(0);
            same("the slot keeps it", Checks.widthsAndRopes(x), "1 1 20 1 1 1 abF c   ");
            x.undo();
            same("undone", Checks.widthsAndRopes(x), "9 1 20 1 1 1 fBA c   ");
            x.undo();
            x.undo();
            x.undo();
            same("the one before, too", Checks.widthsAndRopes(x), "1 1 21 1 1 1  c  d ");
            due("undo leaves the slot", x.restore(0), 4);
            Checks.put(x, "a");
            x.restore(0);
            due("the pad is not restored", x.count(7), 1);
            due("two slots, the same state", x.save(1) + x.restore(1), 8);
        });
        Edges.edge(27, "This is a change.", () -> {
            Edges.change(x -> x.restore(0));
            Edges.change(x -> x.restore(1) < 0 ? x.restore(0) : x.count(6));
        });
        Edges.edge(27, "0 or 1", () -> {
            CountedRopes x = Edges.scene();
            due("0", x.restore(0), 7);
            due("1", x.restore(1), 8);
        });
    }

    private static void restoreAnswers() {
        Edges.edge(27, "Returns the crossings of all ropes together then", () -> {
            CountedRopes x = Checks.with("aA", "b");
            x.save(0);
            x.back(0, 2);
            due("three again", x.restore(0), 3);
            due("as count tells", x.count(6), 3);
            CountedRopes y = new CountedRopes();
            y.save(1);
            y.cross(0, 0);
            due("none", y.restore(1), 0);
        });
        Edges.edge(27, "BAD_VALUE if there is no such slot", () -> {
            Edges.eachBadValue(Edges.NEITHER_0_NOR_1, (x, slot) -> x.restore(slot));
            for (int slot : Edges.NEITHER_0_NOR_1) {
                due("nothing saved anywhere", new CountedRopes().restore(slot), BAD_VALUE);
            }
        });
        Edges.edge(27, "NOT_POSSIBLE if nothing was saved in it.", () -> {
            for (int slot = 0; slot < 2; slot++) {
                CountedRopes x = Checks.with("a");
                due("nothing", x.restore(slot), NOT_POSSIBLE);
                x.save(1 - slot);
                due("in the other one alone", x.restore(slot), NOT_POSSIBLE);
                due("no change", x.count(8), 1);
                x.undo();
                x.save(slot);
                due("an empty state is one, too", x.restore(slot), 0);
            }
        });
    }
}
