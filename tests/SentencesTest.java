import java.io.IOException;
import java.nio.file.Path;
import java.util.List;

/** Each sentence of the document that names a boundary case, by a test of its own; see tests/sentences. */
public final class SentencesTest {
    public static void main(String[] args) throws IOException {
        Sheet sheet = new Sheet(Path.of("../shared/DOC.md"));
        List<Section> sections = List.of(new TermsSentences(sheet), new HomesSentences(sheet), new ReportsSentences(sheet),
            new PlacingSentences(sheet), new VisitsSentences(sheet), new AskingSentences(sheet));
        for (Section section : sections) section.all();
        sheet.lookForUntried();
        System.out.println(sheet.tests() + " tests of sentences, " + sheet.checks() + " checks, " + sheet.wrong() + " wrong");
        if (sheet.wrong() != 0) System.exit(1);
    }
}
