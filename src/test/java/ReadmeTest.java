import java.io.IOException;
import java.nio.file.Files;
import java.nio.file.Path;
import java.util.ArrayList;
import java.util.List;

/** The example of README.md: it stands here line by line, and answers what its comments say. */
final class ReadmeTest {
    public static void main(String[] args) throws IOException {
        theExampleAnswersWhatItSays();
        theExampleStandsHere();
        allCallsAreNamed();
        Check.end();
    }

    private static void theExampleAnswersWhatItSays() {
        // the example begins
        PianoRounds x = new PianoRounds();
        x.addWork(3, 2, 25);
        x.addEntrant();
        x.type('0');
        x.setProgram(0, 0);
        x.begin(42);
        int player = x.play(1);
        for (int juror = 0; juror < x.info(0); juror++) {
            x.mark(juror, player, 80);
        }
        int score = x.entrant(player, 4);
        int state = x.close();
        int records = x.undo();
        // the example ends
        Check.due("play(1)", player, 0);
        Check.due("entrant(player, 4)", score, 79500);
        Check.due("close()", state, 3);
        Check.due("undo()", records, 3);
        Check.due("the state after undo()", x.info(3), 1);
    }

    private static void theExampleStandsHere() throws IOException {
        List<String> told = between(Path.of("README.md"), "```java", "```");
        List<String> made = between(Path.of("src/test/java/ReadmeTest.java"), "// the example begins", "// the example ends");
        Check.same("the example of README.md", told.toString(), made.toString());
    }

    /** The lines between two others, without comments and without the space round them. */
    private static List<String> between(Path file, String first, String last) throws IOException {
        List<String> all = new ArrayList<>();
        boolean inside = false;
        for (String line : Files.readAllLines(file)) {
            String plain = line.trim();
            if (inside && plain.equals(last)) {
                return all;
            }
            if (inside) {
                all.add(plain.replaceAll("\\s*//.*", ""));
            }
            inside = inside || plain.equals(first);
        }
        return all;
    }

    private static void allCallsAreNamed() throws IOException {
        String readme = Files.readString(Path.of("README.md"));
        for (var method : PianoRounds.class.getDeclaredMethods()) {
            boolean isPublic = java.lang.reflect.Modifier.isPublic(method.getModifiers());
            if (isPublic && !readme.contains("`" + method.getName() + "`")) {
                Check.fail("README.md does not name " + method.getName());
            }
        }
    }
}
