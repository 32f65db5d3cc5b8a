import java.io.IOException;

/** Every sentence of the description and of the promises, each with a test of its own. */
public final class SentencesTest {
    public static void main(String[] args) throws IOException {
        Doc.read();
        EngineEdges.all();
        FiringEdges.all();
        ModelEdges.all();
        TextEdges.all();
        CallEdges.all();
        LookEdges.all();
        Doc.demandAllQuoted();
        Check.end();
    }
}
