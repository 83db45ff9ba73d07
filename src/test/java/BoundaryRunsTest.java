import java.io.IOException;
import java.nio.file.Files;
import java.nio.file.Path;
import java.util.HashSet;
import java.util.List;
import java.util.Set;
import java.util.stream.Stream;

/**
 * Plays the runs of src/test/runs: each is a sentence of the document that names a boundary case, and calls on a new
 * desk with the answers that are due. README.md says how they are written.
 */
public final class BoundaryRunsTest {
    private static final Path FOLDER = Path.of("src", "test", "runs");
    /** The document says of these that nothing is changed. */
    private static final List<String> WOULD_BE = List.of("wouldSeal", "unnoticed", "worstTear");

    private final Check check = new Check();
    private final Set<String> titles = new HashSet<>();
    private String title = "";
    private CountedDesk desk = new CountedDesk();

    public static void main(String[] args) throws IOException {
        BoundaryRunsTest test = new BoundaryRunsTest();
        try (Stream<Path> files = Files.list(FOLDER)) {
            for (Path file : files.sorted().toList()) {
                test.playFile(file);
            }
        }
        test.check.yes("there are runs", test.titles.size() > 1);
        System.out.println(test.titles.size() + " runs");
        test.check.end();
    }

    private void playFile(Path file) throws IOException {
        for (String line : Files.readAllLines(file)) {
            String text = line.strip();
            if (text.startsWith("#")) {
                beginRun(text.substring(1).strip());
            } else if (!text.isEmpty() && !text.startsWith("--")) {
                playLine(text);
            }
        }
    }

    private void beginRun(String newTitle) {
        title = newTitle;
        check.yes("no other run has the title: " + title, titles.add(title));
        desk = new CountedDesk();
    }

    private void playLine(String text) {
        if (text.equals("letter") || text.startsWith("letter ")) {
            playLetter(text.substring("letter".length()).strip());
            return;
        }
        int equals = text.indexOf(" = ");
        int times = text.indexOf(" x ");
        if (equals >= 0) {
            playDue(call(text.substring(0, equals)), text.substring(equals + 3).strip());
        } else if (times >= 0) {
            int count = Integer.parseInt(text.substring(0, times));
            for (int i = 0; i < count; i++) {
                playFine(call(text.substring(times + 3)));
            }
        } else {
            playFine(call(text));
        }
    }

    /** A new letter with these signs; "40x9" stands for forty signs 9, and the sign 30 is written and torn. */
    private void playLetter(String signs) {
        int letter = Integer.parseInt(playFine(Call.of("addLetter")));
        if (signs.isEmpty()) {
            return;
        }
        for (String word : signs.split(" +")) {
            int times = word.indexOf('x');
            int count = times < 0 ? 1 : Integer.parseInt(word.substring(0, times));
            int sign = Integer.parseInt(word.substring(times + 1));
            for (int i = 0; i < count; i++) {
                playSign(letter, sign);
            }
        }
    }

    private void playSign(int letter, int sign) {
        boolean blurred = sign == 30;
        int signs = Integer.parseInt(playFine(Call.of("write", letter, blurred ? 0 : sign)));
        if (blurred) {
            playFine(Call.of("tear", letter, signs - 1));
        }
    }

    private String playFine(Call call) {
        String got = desk.answer(call);
        if (got.startsWith("throws.")) {
            throw new AssertionError(title + ": " + call + " answered " + got);
        }
        return got;
    }

    private void playDue(Call call, String due) {
        boolean changesNothing = due.startsWith("throws.") || WOULD_BE.contains(call.name());
        String before = changesNothing ? desk.picture() : "";
        check.equal(title + ": " + call, desk.answer(call), due);
        if (changesNothing) {
            check.unchanged(call + ", in " + title, before, desk.picture());
        }
    }

    private static Call call(String text) {
        int open = text.indexOf('(');
        String inside = text.substring(open + 1, text.lastIndexOf(')')).strip();
        String[] words = inside.isEmpty() ? new String[0] : inside.split(", *");
        int[] numbers = new int[words.length];
        for (int i = 0; i < words.length; i++) {
            numbers[i] = number(words[i].strip());
        }
        return Call.of(text.substring(0, open).strip(), numbers);
    }

    private static int number(String word) {
        return switch (word) {
            case "max" -> Integer.MAX_VALUE;
            case "min" -> Integer.MIN_VALUE;
            default -> Integer.parseInt(word);
        };
    }
}
