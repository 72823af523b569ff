/** The program with its calls counted: the document says nothing of an object after 512 of them, so no test may ask then. */
final class CountedRopes {
    static final int MOST_CALLS = 512;

    private final PostRopes ropes = new PostRopes();
    private int calls = 0;

    int calls() {
        return calls;
    }

    private PostRopes next() {
        calls++;
        if (calls == MOST_CALLS + 1) {
            Checks.holds("a test keeps to " + MOST_CALLS + " calls", false);
        }
        return ropes;
    }

    int width(int post, int width) {
        return next().width(post, width);
    }

    int cross(int rope, int crossing) {
        return next().cross(rope, crossing);
    }

    int back(int rope, int many) {
        return next().back(rope, many);
    }

    int pull(int rope) {
        return next().pull(rope);
    }

    int join(int rope, int other) {
        return next().join(rope, other);
    }

    int turn(int rope) {
        return next().turn(rope);
    }

    int weave(int rope, int other) {
        return next().weave(rope, other);
    }

    int swap(int post, int back) {
        return next().swap(post, back);
    }

    int put(long characters) {
        return next().put(characters);
    }

    int wipe() {
        return next().wipe();
    }

    int fault() {
        return next().fault();
    }

    int load(int rope) {
        return next().load(rope);
    }

    int crossing(int rope, int place) {
        return next().crossing(rope, place);
    }

    int ofRope(int rope, int what) {
        return next().ofRope(rope, what);
    }

    int winds(int rope, int post) {
        return next().winds(rope, post);
    }

    int least(int rope, int place) {
        return next().least(rope, place);
    }

    int count(int what) {
        return next().count(what);
    }

    int falls(int rope, int posts) {
        return next().falls(rope, posts);
    }

    int felling(int rope, int what) {
        return next().felling(rope, what);
    }

    int both(int rope, int other, int what) {
        return next().both(rope, other, what);
    }

    int cuts(int rope) {
        return next().cuts(rope);
    }

    int ifSwapped(int post, int back) {
        return next().ifSwapped(post, back);
    }

    int bestSwap(int what) {
        return next().bestSwap(what);
    }

    int undo() {
        return next().undo();
    }

    int save(int slot) {
        return next().save(slot);
    }

    int restore(int slot) {
        return next().restore(slot);
    }
}
