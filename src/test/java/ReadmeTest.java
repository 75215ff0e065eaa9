import java.io.IOException;
import java.nio.file.Files;
import java.nio.file.Path;
import java.util.List;

/** The calls that README.md shows give the answers that it shows, in its order, and it shows no others. */
public final class ReadmeTest extends Courts {
    private static final String PROGRAM = "charge 1 4;witness 5;testify 0 0+3;question 0 0?;decide 0";

    private static List<String> shown = List.of();
    private static int next = 0;

    public static void main(String[] arguments) throws IOException {
        List<String> lines = Files.readAllLines(Path.of("README.md"));
        shown = lines.stream().filter(line -> line.startsWith("court.")).toList();
        calls();
        Check.due("every call that README.md shows is made", shown.size(), () -> next);
        Check.due("README.md shows the program", true, () -> lines.contains("    " + PROGRAM));
        typedCommands();
        undoneAndRestored();
        Check.end();
    }

    private static void calls() {
        CaseManager court = new CaseManager();
        due("court.charge(1, 4);", 0, () -> court.charge(1, 4));
        due("court.addWitness(5);", 0, () -> court.addWitness(5));
        due("court.testify(0, 0, true, 3);", 1, () -> court.testify(0, 0, true, 3));
        due("court.margin(0);", 5, () -> court.margin(0));
        due("court.decide(0);", true, () -> court.decide(0));
        due("court.sentence(1);", 5, () -> court.sentence(1));
        due("court.appeal(0);", 1, () -> court.appeal(0));
        due("court.question(0, 0, false);", 3, () -> court.question(0, 0, false));
        due("court.decide(0);", false, () -> court.decide(0));
        due("court.sentence(1);", 0, () -> court.sentence(1));
        due("court.formatCase(0);", 11, () -> court.formatCase(0));
        Check.due("the line that README.md shows", "0:1/4n +0*3", () -> lineOf(court, 11));
        due("court.undo();", 6, court::undo);
        due("court.isOpen(0);", true, () -> court.isOpen(0));
    }

    private static void due(String call, Object want, Check.Call made) {
        String line = next < shown.size() ? shown.get(next) : "";
        next++;
        Check.due("README.md shows " + call + " with " + want, true,
            () -> line.startsWith(call) && line.substring(call.length()).matches(" +// " + want + "(: .*)?"));
        Check.due(call, want, made);
    }

    private static void typedCommands() {
        CaseManager x = new CaseManager();
        Check.due("the program", 5, () -> run(x, PROGRAM));
        Check.due("the program's credibility", 3, () -> x.credibility(0));
        Check.due("the program's verdict", false, () -> x.isGuilty(0));
        Check.due("malformed", ARGUMENT, () -> run(x, "decide 0;decode 0"));
        Check.due("errorPosition", 12, x::errorPosition);
        Check.due("refused", UNSUPPORTED, () -> run(x, "appeal 0;charge 1 4"));
        Check.due("failedCommand", 1, x::failedCommand);
        Check.due("isFailureOfState", true, x::isFailureOfState);
        Check.due("none is carried out", true, () -> x.isDecided(0));
    }

    private static void undoneAndRestored() {
        CaseManager x = new CaseManager();
        run(x, PROGRAM);
        Check.due("a run is one change", 1, x::undoableCount);
        x.save();
        Check.due("the whole run is taken back", 0, x::undo);
        Check.due("no case is left", 0, x::caseCount);
        for (int time = 0; time < 2; time++) {
            x.charge(time, 0);
            Check.due("restore", 1, x::restore);
            Check.due("the saved case", 1, () -> x.defendantOf(0));
            Check.due("nothing to undo after restore", 0, x::undoableCount);
        }
    }
}
