import java.io.IOException;
import java.lang.reflect.Field;
import java.nio.file.Files;
import java.nio.file.Path;
import java.util.ArrayList;
import java.util.List;
import java.util.Map;
import java.util.TreeMap;
import java.util.function.Function;
import java.util.function.Supplier;
import java.util.regex.Matcher;
import java.util.regex.Pattern;
import java.util.stream.Stream;

/** What README.md says: its code stands here too, line by line, and its tables tell what calls answer. */
public final class ReadmeTest {
    private static final Check CHECK = new Check("ReadmeTest");
    private static final Path README = Path.of("README.md");
    private static final Path TESTS = Path.of("src/test/java");

    private ReadmeTest() {
    }

    public static void main(String[] args) throws IOException, IllegalAccessException {
        String readme = Files.readString(README);
        codeStandsHere(readme);
        BookmarkManager book = objectAndCalls();
        commandsAndUndo(book);
        rejectedCall(book);
        failedExecution(book);
        refusals(rowsBelow(readme, "| the call |"));
        reasons(rowsBelow(readme, "| reason |"));
        testsAreListed(rowsBelow(readme, "| test |"));
        CHECK.end();
    }

    /** The lines of README.md's code stand in this file, in the same order. */
    private static void codeStandsHere(String readme) throws IOException {
        List<String> here = Files.readString(TESTS.resolve("ReadmeTest.java")).lines().map(String::trim).toList();
        Matcher block = Pattern.compile("(?s)```java\n(.*?)```").matcher(readme);
        int at = 0;
        int lines = 0;
        while (block.find()) {
            for (String line : block.group(1).lines().map(String::trim).toList()) {
                int found = here.subList(at, here.size()).indexOf(line);
                CHECK.compare(true, "ReadmeTest has, in its place, " + line, found >= 0);
                at += found + 1;
                lines++;
            }
        }
        CHECK.compare(true, "README.md has code", lines > 0);
    }

    private static BookmarkManager objectAndCalls() {
        BookmarkManager book = new BookmarkManager();
        int ribbon = book.addRibbon(12, 5);        // 0: the id of a ribbon of weight 5 on page 12
        int ear = book.addDogEar(14, 2);           // 1: the id of a dog ear of weight 2 on page 14
        int chapter = book.startChapter(10);       // 1: the pages 10 to 59 are chapter 1 now
        int length = book.writeChapter(chapter);   // 17: outputAt(0) to outputAt(16) are "10-59 r12*5 e14*2"
        int seat = book.seatOf(ribbon);            // 0: the lowest free seat
        int page = book.pageOf(ear);               // 14
        CHECK.compare(List.of(0, 1, 1, 17, 0, 14), "the first calls", List.of(ribbon, ear, chapter, length, seat, page));
        CHECK.compare("10-59 r12*5 e14*2", "the output", Books.wholeOutput(book));
        return book;
    }

    private static void commandsAndUndo(BookmarkManager book) {
        for (char character : "T14;C20;V1".toCharArray()) {
            book.appendInput(character);
        }
        int commands = book.execute();             // 3: pages are turned, a chapter is started, a vote is held
        CHECK.compare("0r12*5w0s0 1e14*2w1 | 0 10 20 | reader 14 votes 1 0 fallen 0", "the state", Books.state(book));
        int changes = book.undo();                 // 3: all three are taken back, and 3 changes can still be undone
        int saved = book.saveSnapshot();           // 2: the number of marks
        CHECK.compare(List.of(3, 3, 2), "execute(), undo() and saveSnapshot()", List.of(commands, changes, saved));
        CHECK.compare("0r12*5w0s0 1e14*2w0 | 0 10 | reader 0 votes 0 0 fallen 0", "the state after undo()", Books.state(book));
    }

    private static void rejectedCall(BookmarkManager book) {
        try {
            book.addDogEar(12, 1);
            CHECK.compare("a rejection", "addDogEar(12, 1)", "an id");
        } catch (UnsupportedOperationException rejected) {
            int reason = book.rejectionReason();   // 3: BookmarkManager.PAGE_HELD
            int detail = book.rejectionDetail();   // 0: the id of the mark on page 12
            CHECK.compare(BookmarkManager.PAGE_HELD, "rejectionReason()", reason);
            CHECK.compare(List.of(3, 0), "the reason and the detail", List.of(reason, detail));
        }
    }

    private static void failedExecution(BookmarkManager book) {
        String before = Books.state(book);
        for (char character : "E15:1;R14:3".toCharArray()) {
            book.appendInput(character);
        }
        try {
            book.execute();
            CHECK.compare("a rejection", "execute()", "a number");
        } catch (IllegalArgumentException syntaxError) {
            int offset = book.syntaxErrorOffset();
            CHECK.compare("a rejection", "execute()", "a syntax error at " + offset);
        } catch (IllegalStateException notAccepted) {
            // A command has an id, a page, a chapter or a number that its method does not accept.
            CHECK.compare("a rejection", "execute()", notAccepted);
        } catch (UnsupportedOperationException rejected) {
            int number = book.rejectionDetail();   // 1: the second command is rejected
            int cause = book.causeReason();        // 3: BookmarkManager.PAGE_HELD, as page 14 has the dog ear
            CHECK.compare(List.of(1, 3), "the number and the cause", List.of(number, cause));
        }
        CHECK.compare(before, "the state after a failed execution", Books.state(book));
        CHECK.due(1, "appendInput('T') after a failed execution", () -> book.appendInput('T'));
    }

    /** The cells of the table whose first line begins so. */
    private static List<List<String>> rowsBelow(String readme, String head) {
        List<List<String>> rows = new ArrayList<>();
        String table = readme.substring(readme.indexOf("\n" + head) + 1);
        for (String line : table.split("\n")) {
            if (!line.startsWith("|")) {
                break;
            }
            rows.add(Stream.of(line.split("\\|")).map(String::trim).filter(cell -> !cell.isEmpty()).toList());
        }
        CHECK.compare(true, "README.md has the table " + head, rows.size() > 2);
        return rows.subList(Math.min(2, rows.size()), rows.size());
    }

    /** The calls that a row tells of throw its exception, and change what it says. */
    private static void refusals(List<List<String>> rows) {
        CHECK.compare(9, "the rows of refused calls", rows.size());
        refused(rows.get(0), ReadmeTest::withEar, book -> book.pageOf(1), book -> book.isHeld(60), book -> book.ribbonIn(5),
            book -> book.firstPage(1), book -> book.outputAt(0));
        refused(rows.get(1), ReadmeTest::withEar, book -> book.addRibbon(0, 10), book -> book.turnPages(21, true),
            book -> book.appendInput((char) 31));
        refused(rows.get(2), ReadmeTest::withEar, book -> book.markOn(0), book -> book.seatOf(0), book -> book.markByPage(1),
            BookmarkManager::rejectionReason, BookmarkManager::syntaxErrorOffset);
        refused(rows.get(3), BookmarkManager::new, BookmarkManager::meanWeight);
        refused(rows.get(4), BookmarkManager::new, book -> book.appendInput('T'), BookmarkManager::undo,
            BookmarkManager::restoreSnapshot);
        refused(rows.get(5), ReadmeTest::withEar, book -> book.addDogEar(14, 1), book -> book.voteToDissolve(0),
            book -> book.turnPages(1, false));
        failed(rows.get(6), "T1;", "");
        failed(rows.get(7), "X9", "T1;E60:1", "V1", "E0:0");
        failed(rows.get(8), "B1", "T1;C0");
    }

    private static BookmarkManager withEar() {
        BookmarkManager book = new BookmarkManager();
        book.addDogEar(14, 2);
        return book;
    }

    @SafeVarargs
    private static void refused(List<String> row, Supplier<BookmarkManager> setting, Function<BookmarkManager, Object>... calls) {
        for (Function<BookmarkManager, Object> call : calls) {
            refusal(row, setting.get(), "T".repeat(60), call);
        }
    }

    private static void failed(List<String> row, String... inputs) {
        for (String input : inputs) {
            refusal(row, withEar(), input, BookmarkManager::execute);
        }
    }

    private static void refusal(List<String> row, BookmarkManager book, String input, Function<BookmarkManager, Object> call) {
        Books.type(book, input);
        String state = Books.state(book);
        String answer = Check.answer(() -> call.apply(book)).toString();
        String name = "a call that " + row.get(0);
        String changed = row.get(2);
        CHECK.compare(row.get(1), name, answer.replaceAll(".*\\.", ""));
        CHECK.compare(state, "the state after " + name, Books.state(book));
        CHECK.compare(changed.contains("rejection"), name + ": a rejection", !Books.rejection(book).equals("- - -"));
        CHECK.compare(changed.contains("syntax error"), name + ": a syntax error", !Books.syntaxError(book).equals("-"));
        CHECK.compare(changed.contains("input is empty"), name + ": an empty input",
            Check.answer(() -> book.appendInput('T')).equals(1));
    }

    /** Each reason has a row, with its number; RejectionsTest looks at the details. */
    private static void reasons(List<List<String>> rows) throws IllegalAccessException {
        Map<String, String> listed = new TreeMap<>();
        for (List<String> row : rows) {
            listed.put(row.get(0), row.get(1));
        }
        Map<String, String> constants = new TreeMap<>();
        for (Field constant : BookmarkManager.class.getFields()) {
            constants.put(constant.getName(), String.valueOf(constant.getInt(null)));
        }
        CHECK.compare(constants, "the reasons in README.md", listed);
    }

    /** Each test of the project has a row. */
    private static void testsAreListed(List<List<String>> rows) throws IOException {
        List<String> listed = rows.stream().map(row -> row.get(0)).sorted().toList();
        try (Stream<Path> files = Files.list(TESTS)) {
            List<String> tests = files.map(file -> file.getFileName().toString()).filter(name -> name.endsWith("Test.java"))
                .map(name -> name.replace(".java", "")).sorted().toList();
            CHECK.compare(tests, "the tests in README.md", listed);
        }
    }
}
