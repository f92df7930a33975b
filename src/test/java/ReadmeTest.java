import java.io.IOException;
import java.nio.file.Files;
import java.nio.file.Path;
import java.util.ArrayList;
import java.util.List;

/** The example of README.md, row by row: what it says that a call answers is what the call answers. */
public final class ReadmeTest extends Asked {
    private static final String BEGIN = "PanelCopies x = new PanelCopies();";
    private static final String TELLS = "tell(x, \"";

    private static final PanelCopies X = new PanelCopies();

    public static void main(String[] args) throws IOException {
        List<String> rows = example();
        due(1, "rows of the example", rows.size(), 15);
        for (String row : rows) {
            ask(row);
        }
        endTest();
    }

    private static List<String> example() throws IOException {
        List<String> rows = new ArrayList<>();
        boolean within = false;
        for (String row : Files.readAllLines(Path.of("README.md"))) {
            within = (within || row.equals(BEGIN)) && !row.startsWith("```");
            if (within && !row.equals(BEGIN)) {
                rows.add(row);
            }
        }
        return rows;
    }

    private static void ask(String row) {
        if (row.startsWith(TELLS)) {
            feed(X, row.substring(TELLS.length(), row.lastIndexOf('"')));
            return;
        }
        String call = row.substring(0, row.indexOf("//")).trim();
        String said = row.substring(row.indexOf("//") + 2, row.indexOf(':')).trim();
        same(1, call, answerTo(call), said);
    }

    private static String answerTo(String call) {
        switch (call) {
            case "x.gallery()":
                return "" + X.gallery();
            case "x.piece(1, 0)":
                return "" + X.piece(1, 0);
            case "x.steal(0, 1)":
                return "" + X.steal(0, 1);
            case "x.paint(0, 0, 1)":
                return "" + X.paint(0, 0, 1);
            case "x.distance(1, 2)":
                return "" + X.distance(1, 2);
            case "x.sell(0, 2)":
                return "" + X.sell(0, 2);
            case "x.night()":
                return "" + X.night();
            case "x.undo()":
                return "" + X.undo();
            case "x.count(4)":
                return "" + X.count(4);
            case "x.look(0, true)":
                return "" + X.look(0, true);
            case "x.fits()":
                return "" + X.fits();
            case "x.nights()":
                return "" + X.nights();
            case "x.judged(0)":
                return "" + X.judged(0);
            default:
                return "a call that this test does not know";
        }
    }
}
