/** Long runs of calls that look random but are the same each time; each answer has to be the model's. */
final class ModelRuns {
    private static final int RUNS = 400;
    // Reading one long text takes the most: it is emptied, put in pieces, looked at and loaded.
    private static final int MOST_IN_A_STEP = 20;
    private static final int LONGEST_TEXT = 72;
    private static final int KINDS = 26;

    private final CountedRopes program = new CountedRopes();
    private final Model model = new Model();
    private final int posts;
    private final int run;
    private long seed;
    private int wrong = 0;

    private ModelRuns(int run) {
        this.run = run;
        this.seed = 77L * run + 5;
        // Few posts give loops that are alike, powers and ropes that commute.
        this.posts = 1 + run % 6;
    }

    static void all() {
        for (int run = 0; run < RUNS; run++) {
            new ModelRuns(run).play();
        }
    }

    /** All short words at two posts: their cuts, by trying out all that could be cut. */
    static void shortWords() {
        for (int length = 1; length <= 6; length++) {
            for (int number = 0; number < 1 << 2 * length; number++) {
                StringBuilder word = new StringBuilder();
                for (int i = 0; i < length; i++) {
                    word.append("abAB".charAt(number >> 2 * i & 3));
                }
                CountedRopes ropes = new CountedRopes();
                Checks.load(ropes, 0, word.toString());
                Checks.due("cuts of " + word, ropes.cuts(0), cutsByTrying(word.toString()));
            }
        }
    }

    private static int cutsByTrying(String word) {
        int least = word.length();
        for (int cut = 0; cut < 1 << word.length(); cut++) {
            StringBuilder left = new StringBuilder();
            for (int i = 0; i < word.length(); i++) {
                left.append((cut >> i & 1) == 0 ? word.substring(i, i + 1) : "");
            }
            if (Integer.bitCount(cut) < least && Model.pulled(left.toString()).isEmpty()) {
                least = Integer.bitCount(cut);
            }
        }
        return least;
    }

    private void play() {
        while (program.calls() + MOST_IN_A_STEP <= CountedRopes.MOST_CALLS && wrong == 0) {
            step();
        }
    }

    private void step() {
        int kind = below(KINDS + 14);
        if (kind >= KINDS + 10) {
            loadText();
        } else if (kind >= KINDS + 3) {
            crossOften();
        } else if (kind >= KINDS) {
            askOneRope();
        } else {
            one(kind, rope(), any());
        }
    }

    private void one(int kind, int rope, int a) {
        switch (kind) {
            case 0: { int post = near(6), width = near(100); due("width " + post + " " + width, program.width(post, width), model.width(post, width)); break; }
            case 1: due("cross " + rope + " " + a, program.cross(rope, a), model.cross(rope, a)); break;
            case 2: { int many = below(6) == 0 ? near(122) : near(4); due("back " + rope + " " + many, program.back(rope, many), model.back(rope, many)); break; }
            case 3: due("pull " + rope, program.pull(rope), model.pull(rope)); break;
            case 4: { int other = rope(); due("join " + rope + " " + other, program.join(rope, other), model.join(rope, other)); break; }
            case 5: due("turn " + rope, program.turn(rope), model.turn(rope)); break;
            case 6: { int other = rope(); due("weave " + rope + " " + other, program.weave(rope, other), model.weave(rope, other)); break; }
            case 7: { int post = near(5), back = near(2); due("swap " + post + " " + back, program.swap(post, back), model.swap(post, back)); break; }
            case 8: { long number = strange(); due("put " + number, program.put(number), model.put(number)); break; }
            case 9: due("wipe", program.wipe(), model.wipe()); break;
            case 10: due("fault", program.fault(), model.fault()); break;
            case 11: due("load " + rope, program.load(rope), model.load(rope)); break;
            case 12: { int place = near(40); due("crossing " + rope + " " + place, program.crossing(rope, place), model.crossing(rope, place)); break; }
            case 13: { int what = near(9); due("ofRope " + rope + " " + what, program.ofRope(rope, what), model.ofRope(rope, what)); break; }
            case 14: { int post = near(6); due("winds " + rope + " " + post, program.winds(rope, post), model.winds(rope, post)); break; }
            case 15: { int place = near(40); due("least " + rope + " " + place, program.least(rope, place), model.least(rope, place)); break; }
            case 16: { int what = near(9); due("count " + what, program.count(what), model.count(what)); break; }
            case 17: { int set = near(64); due("falls " + rope + " " + set, program.falls(rope, set), model.falls(rope, set)); break; }
            case 18: { int what = near(2); due("felling " + rope + " " + what, program.felling(rope, what), model.felling(rope, what)); break; }
            case 19: { int other = rope(), what = near(4); due("both " + rope + " " + other + " " + what, program.both(rope, other, what), model.both(rope, other, what)); break; }
            case 20: if (below(3) == 0) due("cuts " + rope, program.cuts(rope), model.cuts(rope)); break;
            case 21: { int post = near(5), back = near(2); due("ifSwapped " + post + " " + back, program.ifSwapped(post, back), model.ifSwapped(post, back)); break; }
            case 22: { int what = near(3); due("bestSwap " + what, program.bestSwap(what), model.bestSwap(what)); break; }
            case 23: due("undo", program.undo(), model.undo()); break;
            case 24: { int slot = near(2); due("save " + slot, program.save(slot), model.save(slot)); break; }
            default: { int slot = near(2); due("restore " + slot, program.restore(slot), model.restore(slot)); break; }
        }
    }

    private void crossOften() {
        int rope = below(4);
        int many = 1 + below(6);
        for (int i = 0; i < many; i++) {
            one(1, rope, crossing());
        }
    }

    private void askOneRope() {
        int rope = below(4);
        for (int what = 0; what <= 8; what++) {
            due("ofRope " + rope + " " + what, program.ofRope(rope, what), model.ofRope(rope, what));
        }
        for (int place = 0; place < 8; place++) {
            due("least " + rope + " " + place, program.least(rope, place), model.least(rope, place));
        }
    }

    private void loadText() {
        int rope = rope();
        String text = text(0, 1 + below(5));
        if (below(4) == 0) {
            text = spoiled(text);
        }
        text = text.substring(0, Math.min(text.length(), LONGEST_TEXT));
        one(9, 0, 0);
        for (int i = 0; i < text.length(); i += 8) {
            long number = Checks.number(text.substring(i, Math.min(text.length(), i + 8)));
            due("put " + number, program.put(number), model.put(number));
        }
        one(10, 0, 0);
        one(11, rope, 0);
    }

    private String text(int depth, int parts) {
        StringBuilder text = new StringBuilder();
        for (int part = 0; part < parts; part++) {
            int kind = depth < 4 ? below(8) : below(6);
            if (kind == 6) {
                text.append('(').append(text(depth + 1, 1 + below(3))).append(')');
            } else if (kind == 7) {
                text.append('[').append(text(depth + 1, 1 + below(2))).append(',').append(text(depth + 1, 1 + below(2))).append(']');
            } else {
                text.append("abcdefABCDEF".charAt(crossing()));
            }
            text.append(below(4) == 0 ? "'" : "");
            text.append(below(4) == 0 ? "" + (char) ('2' + below(below(4) == 0 ? 8 : 2)) : "");
        }
        return text.toString();
    }

    private String spoiled(String text) {
        StringBuilder spoiled = new StringBuilder(text);
        String signs = "abcF()[],'1290gG~!";
        int at = below(text.length());
        int kind = below(4);
        if (kind == 0) {
            spoiled.setLength(at);
        } else if (kind == 1) {
            spoiled.deleteCharAt(at);
        } else if (kind == 2) {
            spoiled.insert(at, signs.charAt(below(signs.length())));
        } else {
            spoiled.setCharAt(at, signs.charAt(below(signs.length())));
        }
        return spoiled.toString();
    }

    private long strange() {
        long number = 0;
        int many = below(9);
        for (int i = 0; i < many; i++) {
            number = number << 8 | (below(12) == 0 ? below(256) : "abAB()[],'2".charAt(below(11)));
        }
        return number;
    }

    private int any() {
        return below(12) == 0 ? near(12) : crossing();
    }

    private int rope() {
        return below(25) == 0 ? outside(4) : below(4);
    }

    private int crossing() {
        return below(posts) + 6 * below(2);
    }

    /** Mostly in range, at times one beside it, seldom far away. */
    private int near(int bound) {
        return below(13) == 0 ? outside(bound) : below(bound);
    }

    private int outside(int bound) {
        int kind = below(3);
        if (kind == 0) return -1;
        if (kind == 1) return bound;
        return below(2) == 0 ? Integer.MIN_VALUE : Integer.MAX_VALUE;
    }

    private int below(int bound) {
        seed = seed * 6364136223846793005L + 1442695040888963407L;
        return (int) ((seed >>> 33) % bound);
    }

    private void due(String call, int got, int want) {
        Checks.due("model run " + run + ": " + call, got, want);
        if (got != want) {
            wrong++;
        }
    }
}
