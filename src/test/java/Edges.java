import java.nio.file.Files;
import java.nio.file.Path;

/** Each sentence of the document that names a boundary has a test of its own here. Argument: the document. */
public final class Edges {
    public static void main(String[] arguments) throws Exception {
        Sentences sentences = new Sentences(Files.readString(Path.of(arguments[0])));
        Edge[] parts = {new EdgesOfBodies(sentences), new EdgesOfTheLaw(sentences), new EdgesOfTheClock(sentences),
            new EdgesOfPushes(sentences), new EdgesOfDeeds(sentences), new EdgesOfShelves(sentences),
            new EdgesOfRefusals(sentences)};
        for (Edge part : parts) part.run();
        if (!sentences.end()) System.exit(1);
    }
}
