import java.io.IOException;

/** Runs every test of the project; the arguments are the paths of the program's source, of the document and of the README. */
public final class AllTests {
    private AllTests() {
    }

    public static void main(String[] args) throws IOException {
        PromiseTests.all();
        Edges.all();
        String document = args.length > 1 ? args[1] : "../shared/DOC.md";
        DocTest.all(document);
        FaceTest.all(args.length > 0 ? args[0] : "src/main/java/PostRopes.java");
        ReadmeTest.all(args.length > 2 ? args[2] : "README.md", document);
        RoomTest.all();
        ModelRuns.shortWords();
        ModelRuns.all();
        System.out.println(Checks.passed + " passed, " + Checks.failed + " failed");
        if (Checks.failed != 0) {
            System.exit(1);
        }
    }
}
