/** Ropes laid over posts as words of crossings. */
public final class PostRopes {
    public static final int NO_SUCH = -1, BAD_VALUE = -2, BAD_TEXT = -3, TOO_MANY = -4, NOT_POSSIBLE = -5, NONE = -6;

    private static final int POSTS = 6;
    private static final int POST_SETS = 64;
    private static final int CROSSINGS = 12;
    private static final int ROPES = 4;
    private static final int LONGEST_ROPE = 120;
    private static final int WIDEST = 99;
    private static final int LONGEST_PAD = 60;
    private static final int MOST_IN_A_PUT = 8;
    private static final int FIRST_CODE = 33;
    private static final int LAST_CODE = 126;
    private static final int DEEPEST = 4;
    private static final int SLOTS = 2;
    private static final int MOST_UNDONE = 6;
    private static final int WINDS_BASE = 1000;
    // A weave is four ropes long before it is pulled; no other word grows longer.
    private static final int WORK_ROOM = 4 * LONGEST_ROPE;
    private static final int NO_CROSSING = -1;

    private final State now;
    private final Past past;
    private final State[] slots;
    private final boolean[] filled;
    private final Pad pad;
    private final Scissors scissors;
    // Calls share these words, so that no call makes an object.
    private final Word work;
    private final Word spare;
    private final Word loop;

    public PostRopes() {
        now = new State();
        past = new Past();
        slots = new State[SLOTS];
        for (int slot = 0; slot < SLOTS; slot++) {
            slots[slot] = new State();
        }
        filled = new boolean[SLOTS];
        pad = new Pad();
        scissors = new Scissors();
        work = new Word(WORK_ROOM);
        spare = new Word(WORK_ROOM);
        loop = new Word(WORK_ROOM);
    }

    // ---- posts, ropes

    public int width(int post, int width) {
        if (!isPost(post)) {
            return NO_SUCH;
        }
        if (width < 1 || width > WIDEST) {
            return BAD_VALUE;
        }
        past.remember(now);
        int previous = now.widths[post];
        now.widths[post] = width;
        return previous;
    }

    public int cross(int rope, int crossing) {
        if (!isRope(rope)) {
            return NO_SUCH;
        }
        if (crossing < 0 || crossing >= CROSSINGS) {
            return BAD_VALUE;
        }
        Word word = now.ropes[rope];
        if (word.length >= LONGEST_ROPE) {
            return TOO_MANY;
        }
        past.remember(now);
        word.add(crossing);
        return word.length;
    }

    public int back(int rope, int many) {
        if (!isRope(rope)) {
            return NO_SUCH;
        }
        if (many < 1 || many > LONGEST_ROPE) {
            return BAD_VALUE;
        }
        Word word = now.ropes[rope];
        if (many > word.length) {
            return NOT_POSSIBLE;
        }
        past.remember(now);
        word.dropLast(many);
        return word.length;
    }

    public int pull(int rope) {
        if (!isRope(rope)) {
            return NO_SUCH;
        }
        past.remember(now);
        return now.ropes[rope].cancelPairs();
    }

    public int join(int rope, int other) {
        if (!isRope(rope) || !isRope(other)) {
            return NO_SUCH;
        }
        Word word = now.ropes[rope];
        if (word.length + now.ropes[other].length > LONGEST_ROPE) {
            return TOO_MANY;
        }
        past.remember(now);
        word.addWord(now.ropes[other]);
        return word.length;
    }

    public int turn(int rope) {
        if (!isRope(rope)) {
            return NO_SUCH;
        }
        past.remember(now);
        Word word = now.ropes[rope];
        word.turnFrom(0);
        return word.length;
    }

    public int weave(int rope, int other) {
        if (!isRope(rope) || !isRope(other) || rope == other) {
            return NO_SUCH;
        }
        Word word = now.ropes[rope];
        work.clear();
        work.addWord(word);
        work.addWord(now.ropes[other]);
        work.addTurned(word);
        work.addTurned(now.ropes[other]);
        work.cancelPairs();
        if (work.length > LONGEST_ROPE) {
            return TOO_MANY;
        }
        past.remember(now);
        word.copyFrom(work);
        return word.length;
    }

    public int swap(int post, int back) {
        if (!isSwap(post)) {
            return NO_SUCH;
        }
        if (!isBack(back)) {
            return BAD_VALUE;
        }
        // Every rope is tried before one is changed: an error changes nothing.
        for (int rope = 0; rope < ROPES; rope++) {
            laySwapped(now.ropes[rope], post, back);
            if (work.length > LONGEST_ROPE) {
                return TOO_MANY;
            }
        }
        past.remember(now);
        for (int rope = 0; rope < ROPES; rope++) {
            laySwapped(now.ropes[rope], post, back);
            now.ropes[rope].copyFrom(work);
        }
        return now.allCrossings();
    }

    // ---- texts

    public int put(long characters) {
        int many = Pad.charactersIn(characters);
        if (many == 0) {
            return BAD_VALUE;
        }
        if (pad.length + many > LONGEST_PAD) {
            return TOO_MANY;
        }
        pad.append(characters, many);
        return pad.length;
    }

    public int wipe() {
        int previous = pad.length;
        pad.clear();
        return previous;
    }

    public int fault() {
        return pad.findFault();
    }

    public int load(int rope) {
        if (!isRope(rope)) {
            return NO_SUCH;
        }
        if (pad.findFault() != NONE) {
            return BAD_TEXT;
        }
        if (!pad.readInto(work) || work.length > LONGEST_ROPE) {
            return TOO_MANY;
        }
        past.remember(now);
        now.ropes[rope].copyFrom(work);
        pad.clear();
        return now.ropes[rope].length;
    }

    // ---- what there is

    public int crossing(int rope, int place) {
        if (!isRope(rope)) {
            return NO_SUCH;
        }
        return crossingOrNoSuch(now.ropes[rope], place);
    }

    public int ofRope(int rope, int what) {
        if (!isRope(rope)) {
            return NO_SUCH;
        }
        Word word = now.ropes[rope];
        switch (what) {
            case 0:
                return word.length;
            case 1:
                return now.widthsAlong(word);
            case 2:
                layPulled(word);
                return work.length;
            case 3:
                layPulled(word);
                return now.widthsAlong(work);
            case 4:
                layLoop(word);
                return loop.length;
            case 5:
                layLoop(word);
                return loop.power();
            case 6:
                layLoop(word);
                return loop.posts();
            case 7:
                return word.firstPair();
            case 8:
                return oneIf(fallsWithout(word, 0));
            default:
                return BAD_VALUE;
        }
    }

    public int winds(int rope, int post) {
        if (!isRope(rope) || !isPost(post)) {
            return NO_SUCH;
        }
        return WINDS_BASE + now.ropes[rope].windings(post);
    }

    public int least(int rope, int place) {
        if (!isRope(rope)) {
            return NO_SUCH;
        }
        layLeast(now.ropes[rope], work);
        return crossingOrNoSuch(work, place);
    }

    public int count(int what) {
        if (isPost(what)) {
            return now.widths[what];
        }
        switch (what) {
            case 6:
                return now.allCrossings();
            case 7:
                return pad.length;
            case 8:
                return past.kept;
            default:
                return BAD_VALUE;
        }
    }

    // ---- what if; nothing changes

    public int falls(int rope, int posts) {
        if (!isRope(rope) || posts < 0 || posts >= POST_SETS) {
            return NO_SUCH;
        }
        return oneIf(fallsWithout(now.ropes[rope], posts));
    }

    public int felling(int rope, int what) {
        if (!isRope(rope)) {
            return NO_SUCH;
        }
        if (what < 0 || what > 1) {
            return BAD_VALUE;
        }
        long falling = 0;
        int many = 0;
        int best = POST_SETS - 1;
        for (int posts = 0; posts < POST_SETS; posts++) {
            if (holdsFallingPart(falling, posts)) {
                falling |= 1L << posts;
            } else if (fallsWithout(now.ropes[rope], posts)) {
                falling |= 1L << posts;
                many++;
                best = Integer.bitCount(posts) < Integer.bitCount(best) ? posts : best;
            }
        }
        return what == 0 ? many : best;
    }

    public int both(int rope, int other, int what) {
        if (!isRope(rope) || !isRope(other)) {
            return NO_SUCH;
        }
        Word one = now.ropes[rope];
        Word two = now.ropes[other];
        switch (what) {
            case 0:
                return oneIf(areAlike(one, two));
            case 1:
                spare.clear();
                spare.addTurned(two);
                return oneIf(areAlike(one, spare));
            case 2:
                return oneIf(doCommute(one, two));
            case 3:
                return oneIf(arePulledTheSame(one, two));
            default:
                return BAD_VALUE;
        }
    }

    public int cuts(int rope) {
        if (!isRope(rope)) {
            return NO_SUCH;
        }
        // A pair that cancels never asks for a cut of its own: where one of the two is cut,
        // the crossing that the other one cancels with can be cut in its place.
        layPulled(now.ropes[rope]);
        return scissors.fewestCuts(work);
    }

    public int ifSwapped(int post, int back) {
        if (!isSwap(post)) {
            return NO_SUCH;
        }
        if (!isBack(back)) {
            return BAD_VALUE;
        }
        return crossingsIfSwapped(post, back);
    }

    public int bestSwap(int what) {
        if (what < 0 || what > 2) {
            return BAD_VALUE;
        }
        int bestPost = 0;
        int bestBack = 0;
        int fewest = crossingsIfSwapped(0, 0);
        for (int post = 0; post < POSTS - 1; post++) {
            for (int back = 0; back <= 1; back++) {
                int many = crossingsIfSwapped(post, back);
                if (many < fewest) {
                    bestPost = post;
                    bestBack = back;
                    fewest = many;
                }
            }
        }
        if (what == 0) {
            return bestPost;
        }
        return what == 1 ? bestBack : fewest;
    }

    // ---- undo, saving

    public int undo() {
        if (past.kept == 0) {
            return NOT_POSSIBLE;
        }
        past.bringBack(now);
        return past.kept;
    }

    public int save(int slot) {
        if (!isSlot(slot)) {
            return BAD_VALUE;
        }
        slots[slot].copyFrom(now);
        filled[slot] = true;
        return now.allCrossings();
    }

    public int restore(int slot) {
        if (!isSlot(slot)) {
            return BAD_VALUE;
        }
        if (!filled[slot]) {
            return NOT_POSSIBLE;
        }
        past.remember(now);
        now.copyFrom(slots[slot]);
        return now.allCrossings();
    }

    // ---- what is in range

    private static boolean isPost(int post) {
        return post >= 0 && post < POSTS;
    }

    private static boolean isRope(int rope) {
        return rope >= 0 && rope < ROPES;
    }

    private static boolean isSwap(int post) {
        return post >= 0 && post < POSTS - 1;
    }

    private static boolean isBack(int back) {
        return back == 0 || back == 1;
    }

    private static boolean isSlot(int slot) {
        return slot >= 0 && slot < SLOTS;
    }

    // ---- crossings

    private static int postOf(int crossing) {
        return crossing < POSTS ? crossing : crossing - POSTS;
    }

    private static int opposite(int crossing) {
        return crossing < POSTS ? crossing + POSTS : crossing - POSTS;
    }

    private static int oneIf(boolean holds) {
        return holds ? 1 : 0;
    }

    private static int crossingOrNoSuch(Word word, int place) {
        int crossing = word.at(place);
        return crossing == NO_CROSSING ? NO_SUCH : crossing;
    }

    // ---- words that are laid into the shared ones

    private void layPulled(Word word) {
        work.copyFrom(word);
        work.cancelPairs();
    }

    private void layLoop(Word word) {
        loop.copyFrom(word);
        loop.tighten();
    }

    private void layLeast(Word word, Word into) {
        loop.copyFrom(word);
        loop.tighten();
        into.copyFromStart(loop, loop.leastStart());
    }

    private void laySwapped(Word word, int post, int back) {
        work.clear();
        for (int place = 0; place < word.length; place++) {
            addSwapped(word.at(place), post, back);
        }
    }

    /** Both changes of places wrap the crossings at one of the posts and rename those at the other one. */
    private void addSwapped(int crossing, int post, int back) {
        int wrapped = post + back;
        int renamed = post + 1 - back;
        int at = postOf(crossing);
        int side = crossing - at;
        if (at == wrapped) {
            int before = back == 0 ? wrapped : opposite(wrapped);
            work.addPulled(before);
            work.addPulled(renamed + side);
            work.addPulled(opposite(before));
        } else if (at == renamed) {
            work.addPulled(wrapped + side);
        } else {
            work.addPulled(crossing);
        }
    }

    private int crossingsIfSwapped(int post, int back) {
        int many = 0;
        for (int rope = 0; rope < ROPES; rope++) {
            laySwapped(now.ropes[rope], post, back);
            many += work.length;
        }
        return many;
    }

    // ---- questions about words

    private boolean fallsWithout(Word word, int posts) {
        work.clear();
        for (int place = 0; place < word.length; place++) {
            int crossing = word.at(place);
            if ((posts >> postOf(crossing) & 1) == 0) {
                work.addPulled(crossing);
            }
        }
        return work.length == 0;
    }

    /** A rope that falls by a set falls by every larger one, so the parts with one post less tell of all parts. */
    private static boolean holdsFallingPart(long falling, int posts) {
        for (int post = 0; post < POSTS; post++) {
            boolean inSet = (posts >> post & 1) == 1;
            if (inSet && (falling >> (posts - (1 << post)) & 1L) == 1L) {
                return true;
            }
        }
        return false;
    }

    /** The second word may be the spare one: it is read before the spare one is written. */
    private boolean areAlike(Word one, Word two) {
        layLeast(two, spare);
        layLeast(one, work);
        return work.isSameAs(spare);
    }

    private boolean doCommute(Word one, Word two) {
        work.copyFrom(one);
        work.addWord(two);
        work.cancelPairs();
        spare.copyFrom(two);
        spare.addWord(one);
        spare.cancelPairs();
        return work.isSameAs(spare);
    }

    private boolean arePulledTheSame(Word one, Word two) {
        layPulled(one);
        spare.copyFrom(two);
        spare.cancelPairs();
        return work.isSameAs(spare);
    }

    /** A row of crossings that never outgrows the room that it was made with. */
    private static final class Word {
        final int[] crossings;
        int length;

        Word(int room) {
            crossings = new int[Math.max(room, 0)];
            length = 0;
        }

        int at(int place) {
            return place >= 0 && place < length ? crossings[place] : NO_CROSSING;
        }

        boolean add(int crossing) {
            if (length >= crossings.length) {
                return false;
            }
            crossings[length] = crossing;
            length++;
            return true;
        }

        boolean addPulled(int crossing) {
            if (length > 0 && crossings[length - 1] == opposite(crossing)) {
                length--;
                return true;
            }
            return add(crossing);
        }

        void clear() {
            length = 0;
        }

        void dropLast(int many) {
            length = Math.max(0, length - many);
        }

        void copyFrom(Word other) {
            length = 0;
            addWord(other);
        }

        void addWord(Word other) {
            // The length is read ahead: the other word may be this one.
            int many = other.length;
            for (int place = 0; place < many; place++) {
                add(other.at(place));
            }
        }

        void addTurned(Word other) {
            addTurnedPart(other, 0, other.length);
        }

        boolean addTurnedPart(Word other, int from, int to) {
            for (int place = to - 1; place >= from; place--) {
                if (!add(opposite(other.at(place)))) {
                    return false;
                }
            }
            return true;
        }

        boolean repeatFrom(int from, int times) {
            int to = length;
            for (int time = 1; time < times; time++) {
                for (int place = from; place < to; place++) {
                    if (!add(at(place))) {
                        return false;
                    }
                }
            }
            return true;
        }

        void turnFrom(int from) {
            int low = Math.max(from, 0);
            int high = length - 1;
            while (low < high) {
                int crossing = crossings[low];
                crossings[low] = opposite(crossings[high]);
                crossings[high] = opposite(crossing);
                low++;
                high--;
            }
            if (low == high) {
                crossings[low] = opposite(crossings[low]);
            }
        }

        int cancelPairs() {
            int many = length;
            length = 0;
            // What is written never overtakes what is read.
            for (int place = 0; place < many; place++) {
                addPulled(crossings[place]);
            }
            return (many - length) / 2;
        }

        void tighten() {
            cancelPairs();
            int first = 0;
            int last = length - 1;
            while (first < last && crossings[first] == opposite(crossings[last])) {
                first++;
                last--;
            }
            length = 0;
            for (int place = first; place <= last; place++) {
                add(crossings[place]);
            }
        }

        int atRound(int place) {
            return at(place < length ? place : place - length);
        }

        int leastStart() {
            int best = 0;
            for (int start = 1; start < length; start++) {
                if (isLessFrom(start, best)) {
                    best = start;
                }
            }
            return best;
        }

        boolean isLessFrom(int start, int other) {
            for (int place = 0; place < length; place++) {
                int mine = atRound(start + place);
                int theirs = atRound(other + place);
                if (mine != theirs) {
                    return mine < theirs;
                }
            }
            return false;
        }

        void copyFromStart(Word round, int start) {
            length = 0;
            for (int place = 0; place < round.length; place++) {
                add(round.atRound(start + place));
            }
        }

        /** The root of a loop is as long wherever the loop begins, so the least form is not needed for it. */
        int power() {
            for (int period = 1; period <= length; period++) {
                if (length % period == 0 && repeatsAfter(period)) {
                    return length / period;
                }
            }
            return 0;
        }

        boolean repeatsAfter(int period) {
            for (int place = period; place < length; place++) {
                if (at(place) != at(place - period)) {
                    return false;
                }
            }
            return true;
        }

        int posts() {
            int posts = 0;
            for (int place = 0; place < length; place++) {
                posts |= 1 << postOf(crossings[place]);
            }
            return posts;
        }

        int firstPair() {
            for (int place = 0; place + 1 < length; place++) {
                if (crossings[place] == opposite(crossings[place + 1])) {
                    return place;
                }
            }
            return NONE;
        }

        int windings(int post) {
            int many = 0;
            for (int place = 0; place < length; place++) {
                if (crossings[place] == post) {
                    many++;
                } else if (crossings[place] == opposite(post)) {
                    many--;
                }
            }
            return many;
        }

        boolean isSameAs(Word other) {
            if (length != other.length) {
                return false;
            }
            for (int place = 0; place < length; place++) {
                if (at(place) != other.at(place)) {
                    return false;
                }
            }
            return true;
        }
    }

    /** What a change changes, and what is saved and brought back: widths and ropes. */
    private static final class State {
        final int[] widths;
        final Word[] ropes;

        State() {
            widths = new int[POSTS];
            for (int post = 0; post < POSTS; post++) {
                widths[post] = 1;
            }
            ropes = new Word[ROPES];
            for (int rope = 0; rope < ROPES; rope++) {
                ropes[rope] = new Word(LONGEST_ROPE);
            }
        }

        void copyFrom(State other) {
            for (int post = 0; post < POSTS; post++) {
                widths[post] = other.widths[post];
            }
            for (int rope = 0; rope < ROPES; rope++) {
                ropes[rope].copyFrom(other.ropes[rope]);
            }
        }

        int allCrossings() {
            int many = 0;
            for (int rope = 0; rope < ROPES; rope++) {
                many += ropes[rope].length;
            }
            return many;
        }

        int widthsAlong(Word word) {
            int together = 0;
            for (int place = 0; place < word.length; place++) {
                int post = postOf(word.at(place));
                together += isPost(post) ? widths[post] : 0;
            }
            return together;
        }
    }

    /** The states before the latest changes, in a ring: the oldest one gives way to a new one. */
    private static final class Past {
        final State[] states;
        int next;
        int kept;

        Past() {
            states = new State[MOST_UNDONE];
            for (int place = 0; place < MOST_UNDONE; place++) {
                states[place] = new State();
            }
            next = 0;
            kept = 0;
        }

        void remember(State state) {
            states[next].copyFrom(state);
            next = (next + 1) % MOST_UNDONE;
            kept = Math.min(kept + 1, MOST_UNDONE);
        }

        void bringBack(State state) {
            next = (next + MOST_UNDONE - 1) % MOST_UNDONE;
            kept = Math.max(kept - 1, 0);
            state.copyFrom(states[next]);
        }
    }

    /** The text that waits to be read as a word. */
    private static final class Pad {
        static final int WRONG = -1;
        static final int PART_DUE = 0;
        static final int BASE_READ = 1;
        static final int TURN_READ = 2;
        static final int TIMES_READ = 3;

        final int[] codes;
        int length;
        // What is open, from the outside in: its sign ('[' becomes ',' when the comma is read),
        // and where in the word it began and its comma stood.
        final int[] signs;
        final int[] starts;
        final int[] middles;
        int depth;

        Pad() {
            codes = new int[LONGEST_PAD];
            length = 0;
            signs = new int[DEEPEST];
            starts = new int[DEEPEST];
            middles = new int[DEEPEST];
            depth = 0;
        }

        /** How many characters a number holds; 0 if it holds none, or anything else. */
        static int charactersIn(long characters) {
            long rest = characters;
            int many = 0;
            while (many < MOST_IN_A_PUT && rest != 0) {
                int code = (int) (rest & 255L);
                if (code < FIRST_CODE || code > LAST_CODE) {
                    return 0;
                }
                many++;
                rest >>>= 8;
            }
            return many;
        }

        void append(long characters, int many) {
            for (int place = many - 1; place >= 0 && length < LONGEST_PAD; place--) {
                codes[length] = (int) (characters >>> (8 * place) & 255L);
                length++;
            }
        }

        void clear() {
            length = 0;
        }

        static int crossingOf(int code) {
            if (code >= 'a' && code <= 'f') {
                return code - 'a';
            }
            if (code >= 'A' && code <= 'F') {
                return code - 'A' + POSTS;
            }
            return NO_CROSSING;
        }

        static boolean isTimes(int code) {
            return code >= '2' && code <= '9';
        }

        int findFault() {
            depth = 0;
            int stage = PART_DUE;
            for (int place = 0; place < length; place++) {
                stage = stageAfter(stage, codes[place]);
                if (stage == WRONG) {
                    return place;
                }
            }
            return stage == PART_DUE || depth > 0 ? length : NONE;
        }

        int stageAfter(int stage, int code) {
            if (crossingOf(code) != NO_CROSSING) {
                return BASE_READ;
            }
            if (code == '(' || code == '[') {
                return open(code, 0) ? PART_DUE : WRONG;
            }
            if (stage == PART_DUE) {
                return WRONG;
            }
            if (code == '\'') {
                return stage == BASE_READ ? TURN_READ : WRONG;
            }
            if (isTimes(code)) {
                return stage == TIMES_READ ? WRONG : TIMES_READ;
            }
            return stageAfterClosing(code);
        }

        int stageAfterClosing(int code) {
            int sign = innermostSign();
            if (code == ',' && sign == '[') {
                passComma(0);
                return PART_DUE;
            }
            boolean closes = code == ')' && sign == '(' || code == ']' && sign == ',';
            if (!closes) {
                return WRONG;
            }
            depth--;
            return BASE_READ;
        }

        boolean open(int sign, int start) {
            if (depth >= DEEPEST) {
                return false;
            }
            signs[depth] = sign;
            starts[depth] = start;
            middles[depth] = start;
            depth++;
            return true;
        }

        int innermostSign() {
            return depth > 0 ? signs[depth - 1] : 0;
        }

        void passComma(int middle) {
            if (depth > 0) {
                signs[depth - 1] = ',';
                middles[depth - 1] = middle;
            }
        }

        /** Reads a text without a fault; a word only grows on the way, so it may be given up once its room is full. */
        boolean readInto(Word word) {
            word.clear();
            depth = 0;
            int base = 0;
            for (int place = 0; place < length; place++) {
                int code = codes[place];
                boolean fits = true;
                if (crossingOf(code) != NO_CROSSING) {
                    base = word.length;
                    fits = word.add(crossingOf(code));
                } else if (code == '(' || code == '[') {
                    fits = open(code, word.length);
                } else if (code == ',') {
                    passComma(word.length);
                } else if (code == '\'') {
                    word.turnFrom(base);
                } else if (isTimes(code)) {
                    fits = word.repeatFrom(base, code - '0');
                } else if (depth > 0) {
                    depth--;
                    base = starts[depth];
                    fits = code == ')' || addTurnedHalves(word, base, middles[depth]);
                }
                if (!fits) {
                    return false;
                }
            }
            return true;
        }

        static boolean addTurnedHalves(Word word, int start, int middle) {
            int end = word.length;
            return word.addTurnedPart(word, start, middle) && word.addTurnedPart(word, middle, end);
        }
    }

    /** Finds how many crossings of a word can stay so that they cancel one another. */
    private static final class Scissors {
        // For each part of the word, from a start to ahead of an end, how many of it can stay.
        final int[] stays;
        // For each place the next one with the opposite crossing, and with the same one.
        final int[] nextOpposite;
        final int[] nextSame;
        final int[] nextOf;

        Scissors() {
            stays = new int[LONGEST_ROPE * (LONGEST_ROPE + 1) / 2];
            nextOpposite = new int[LONGEST_ROPE];
            nextSame = new int[LONGEST_ROPE];
            nextOf = new int[CROSSINGS];
        }

        int fewestCuts(Word word) {
            int size = Math.min(word.length, LONGEST_ROPE);
            linkPlaces(word, size);
            for (int end = 1; end <= size; end++) {
                for (int start = end - 1; start >= 0; start--) {
                    stays[placeOf(start, end)] = mostStaying(start, end);
                }
            }
            return size - staying(0, size);
        }

        void linkPlaces(Word word, int size) {
            for (int crossing = 0; crossing < CROSSINGS; crossing++) {
                nextOf[crossing] = size;
            }
            for (int place = size - 1; place >= 0; place--) {
                int crossing = Math.floorMod(word.at(place), CROSSINGS);
                nextOpposite[place] = nextOf[opposite(crossing)];
                nextSame[place] = nextOf[crossing];
                nextOf[crossing] = place;
            }
        }

        /** The first crossing of a part is cut, or it cancels with an opposite one further on. */
        int mostStaying(int start, int end) {
            int most = staying(start + 1, end);
            for (int place = nextOpposite[start]; place < end; place = Math.max(place + 1, nextSame[place])) {
                most = Math.max(most, 2 + staying(start + 1, place) + staying(place + 1, end));
            }
            return most;
        }

        int staying(int start, int end) {
            return start < end ? stays[placeOf(start, end)] : 0;
        }

        static int placeOf(int start, int end) {
            return end * (end - 1) / 2 + start;
        }
    }
}
