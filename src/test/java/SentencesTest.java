import java.io.IOException;
import java.nio.file.Files;
import java.nio.file.Path;

/** A test for each sentence of the document, whose path is the second argument; it has to say them all, and nothing else. */
public final class SentencesTest {
    public static void main(String[] args) throws IOException {
        Sentences s = new Sentences();
        new TermsSentences(s).run();
        new BakingSentences(s).run();
        new AskingSentences(s).run();
        new HappeningSentences(s).run();
        new TextSentences(s).run();
        new WhatIsSentences(s).run();
        new WhatIfSentences(s).run();
        new UndoSentences(s).run();
        s.end(Files.readString(Path.of(args[1])));
    }
}
