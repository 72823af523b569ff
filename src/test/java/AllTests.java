import java.io.IOException;

/** Runs every test of the project; the first argument is the path of the program's source. */
public final class AllTests {
    private AllTests() {
    }

    public static void main(String[] args) throws IOException {
        PromiseTests.all();
        FaceTest.all(args.length > 0 ? args[0] : "src/main/java/PostRopes.java");
        RoomTest.all();
        ModelRuns.shortWords();
        ModelRuns.all();
        System.out.println(Checks.passed + " passed, " + Checks.failed + " failed");
        if (Checks.failed != 0) {
            System.exit(1);
        }
    }
}
