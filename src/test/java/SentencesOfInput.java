import java.util.NoSuchElementException;

/** Promises 53 to 55: the input and its execution. */
final class SentencesOfInput {
    private static final Class<IllegalArgumentException> BAD = IllegalArgumentException.class;
    private static final Class<IllegalStateException> STATE = IllegalStateException.class;
    private static final Class<UnsupportedOperationException> REJECTED = UnsupportedOperationException.class;
    private static final Class<NoSuchElementException> NONE = NoSuchElementException.class;
    private static final String SIXTY = "T20;B20;T20;B20;T20;B20;T20;B20;T20;B20;T20;B20;T20;B20;T001";

    private SentencesOfInput() {
    }

    private static BookmarkManager typed(String input) {
        BookmarkManager book = Books.with("R5:1;E7:1", "C9");
        book.writeSeats();
        Books.type(book, input);
        return book;
    }

    /** Mark 0 is a ribbon on page 5, mark 1 a dog ear of wear 1 on page 7; the chapters start on the pages 0 and 9. */
    private static BookmarkManager book() {
        return Books.with("R5:1;E7:1", "C9;T8");
    }

    // ---- Promise 53

    @Sentence(of = "Promise 53", says = "Appends a character to the input.")
    static void appendInput(Check check) {
        BookmarkManager book = new BookmarkManager();
        book.appendInput('T');
        book.appendInput('9');
        check.due(1, "execute() of T9", book::execute);
        check.due(9, "currentPage()", book::currentPage);
        BookmarkManager full = new BookmarkManager();
        Books.type(full, SIXTY);
        check.due(15, "execute() of 60 characters", full::execute);
        check.due(1, "currentPage(), by the 60th character", full::currentPage);
    }

    @Sentence(of = "Promise 53", says = "`character`: the character, with a code from 32 to 126")
    static void codes(Check check) {
        BookmarkManager first = new BookmarkManager();
        BookmarkManager second = new BookmarkManager();
        for (int code = 32; code <= 126; code++) {
            char character = (char) code;
            BookmarkManager book = code < 80 ? first : second;
            int length = code < 80 ? code - 31 : code - 79;
            check.due(length, "appendInput((char) " + code + ")", () -> book.appendInput(character));
        }
        Refusal.refused(check, () -> typed("T"), BAD, "appendInput", (at, code) -> at.appendInput((char) code), 31, 127);
    }

    @Sentence(of = "Promise 53", says = "Returns the length of the input after the call.")
    static void lengthOfInput(Check check) {
        BookmarkManager book = new BookmarkManager();
        for (int length = 1; length <= 60; length++) {
            check.due(length, "appendInput('1')", () -> book.appendInput('1'));
        }
        Check.answer(() -> book.appendInput('1'));
        Check.answer(book::execute);
        check.due(1, "appendInput('1') to the input that execute() emptied", () -> book.appendInput('1'));
    }

    @Sentence(of = "Promise 53", says = "Throws `IllegalArgumentException` if the code is out of range")
    static void codeOutOfRange(Check check) {
        Refusal.taken(check, () -> typed("T"), "appendInput", (at, code) -> at.appendInput((char) code), 32, 126);
        Refusal.refused(check, () -> typed("T"), BAD, "appendInput", (at, code) -> at.appendInput((char) code),
            0, 10, 31, 127, 128, 255, 256 + '1', 65535);
        Refusal.refused(check, BookmarkManager::new, BAD, "appendInput", (at, code) -> at.appendInput((char) code), 31, 127);
        check.thrown(BAD, "appendInput((char) 127) to 60 characters", () -> typed(SIXTY).appendInput((char) 127));
    }

    @Sentence(of = "Promise 53", says = "Throws `IllegalStateException` if the input has 60 characters")
    static void fullInput(Check check) {
        check.due(60, "appendInput('1') to 59 characters", () -> typed(SIXTY.substring(0, 59)).appendInput('1'));
        check.thrown(STATE, "appendInput('1') to 60 characters", () -> typed(SIXTY).appendInput('1'));
        BookmarkManager book = typed(SIXTY);
        String state = Books.state(book);
        for (char character : new char[] {' ', '1', '~'}) {
            check.thrown(STATE, "appendInput('" + character + "') to 60 characters", () -> book.appendInput(character));
        }
        check.due(state, "the state", () -> Books.state(book));
        check.due("5,-,-,-,-", "the output", () -> Books.wholeOutput(book));
        check.due(2, "undoCount()", book::undoCount);
        check.due(15, "execute() of the 60 characters", book::execute);
        check.due(1, "currentPage()", book::currentPage);
    }

    // ---- Promise 54

    @Sentence(of = "Promise 54", says = "Executes the commands of the input, all of them or none.")
    static void allOrNone(Check check) {
        BookmarkManager all = book();
        check.due(8, "execute() of eight commands", () -> Books.run(all, "X1;E6:3;R0:1;S0,3;M3:59;V1;C30;B8"));
        check.due("0r5*1w0s1 2e6*3w1 3r59*1w0s0 | 0 9 30 | reader 0 votes 1 0 fallen 0", "all of them", () -> Books.state(all));
        String[] last = {"X9", "E60:1", "R1:0", "S0,9", "M9:1", "V9", "C60", "B0", "B21"};
        for (String command : last) {
            Refusal.failed(check, SentencesOfInput::book, STATE, "- - -", "-", "X1;E6:3;R0:1;V1;C30;B7;" + command);
        }
        String[] rejected = {"E6:1", "R0:1", "S0,0", "S0,2", "M0:5", "M2:1", "C30", "B2"};
        int[] causes = {3, 3, 5, 4, 3, 4, 7, 9};
        for (int index = 0; index < rejected.length; index++) {
            Refusal.failed(check, SentencesOfInput::book, REJECTED, "10 6 " + causes[index], "-",
                "X1;E6:3;R0:1;V1;C30;B7;" + rejected[index]);
        }
        Refusal.failed(check, SentencesOfInput::book, BAD, "- - -", "23", "X1;E6:3;R0:1;V1;C30;B7;;");
        Refusal.failed(check, SentencesOfInput::book, REJECTED, "10 0 9", "-", "B9;X1;E6:3");
        Refusal.failed(check, SentencesOfInput::book, REJECTED, "10 1 7", "-", "X1;C9;E6:3");
    }

    @Sentence(of = "Promise 54", says = "The input is empty after the call, also if an exception is thrown.")
    static void emptyInput(Check check) {
        String[] inputs = {"T1", "", "T1;", "Q", "X9", "C60", "V9", "R1:0", "C9", "B9", "T1;V0;V0;V0;C1;C2;C3", SIXTY,
            SIXTY.substring(0, 59) + ";"};
        for (String input : inputs) {
            BookmarkManager book = book();
            Check.answer(() -> Books.run(book, input));
            check.due(1, "appendInput('T') after execute() of \"" + input + "\"", () -> book.appendInput('T'));
            check.due(2, "appendInput('1') after execute() of \"" + input + "\"", () -> book.appendInput('1'));
            check.due(1, "execute() of T1 after execute() of \"" + input + "\"", book::execute);
            check.thrown(BAD, "execute() of the empty input after it", book::execute);
            check.due(0, "syntaxErrorOffset() of the empty input", book::syntaxErrorOffset);
        }
    }

    @Sentence(of = "Promise 54", says = "Returns the number of commands.")
    static void numberOfCommands(Check check) {
        for (int number = 1; number <= 20; number++) {
            String input = "T1;".repeat(number - 1) + "T1";
            check.due(number, "execute() of \"" + input + "\"", () -> Books.run(new BookmarkManager(), input));
        }
        check.due(12, "execute() of the most marks", () -> Books.run(new BookmarkManager(),
            "R0:1;R1:1;R2:1;R3:1;R4:1;E5:1;E6:1;E7:1;E8:1;E9:1;X0;E0:1"));
        check.due(15, "execute() of 60 characters", () -> Books.run(new BookmarkManager(), SIXTY));
        check.due(1, "execute() of a vote that is not carried", () -> Books.run(Books.with("C9"), "V0"));
    }

    @Sentence(of = "Promise 54",
        says = "Throws `IllegalArgumentException` if the input has a syntax error; syntaxErrorOffset returns its offset")
    static void syntaxError(Check check) {
        String[] inputs = {"", "Q", "T", "T1;", "T1;X", "T1234", "X1;E6:3;R0:1;V1;C30;B7;", "R60:0;C0;", "B9;X9;V", "T1 "};
        int[] offsets = {0, 0, 1, 3, 4, 4, 23, 9, 7, 2};
        for (int index = 0; index < inputs.length; index++) {
            Refusal.failed(check, SentencesOfInput::book, BAD, "- - -", String.valueOf(offsets[index]), inputs[index]);
        }
        check.due(1, "execute() of T1, without a syntax error", () -> Books.run(book(), "T1"));
    }

    @Sentence(of = "Promise 54",
        says = "Throws `IllegalStateException` if the first command that fails has an id, a page, a chapter or a number that its method does not accept")
    static void notAccepted(Check check) {
        String[] refused = {"X2", "X999", "M2:1", "M0:60", "M1:60", "S0,2", "S2,0", "R60:1", "E60:1", "R6:0", "E6:0", "R5:0", "C60",
            "V2", "V9", "T0", "T21", "B0", "B21"};
        for (String command : refused) {
            Refusal.failed(check, SentencesOfInput::book, STATE, "- - -", "-", command);
            Refusal.failed(check, SentencesOfInput::book, STATE, "- - -", "-", "B1;" + command + ";C9");
            Refusal.failed(check, SentencesOfInput::book, REJECTED, "10 1 7", "-", "B1;C9;" + command);
        }
        String[] taken = {"X1", "M0:59", "M0:0", "R59:1", "E0:1", "R6:9", "E6:1", "C59", "C1", "V1", "V0", "T1", "T20", "B1", "B8"};
        for (String command : taken) {
            check.due(1, "execute() of " + command, () -> Books.run(book(), command));
        }
        check.due(20, "currentPage() after B8 and T20", () -> {
            BookmarkManager book = book();
            Books.run(book, "B8;T20");
            return book.currentPage();
        });
        Refusal.failed(check, SentencesOfInput::book, STATE, "- - -", "-", "X1;X1");
        Refusal.failed(check, SentencesOfInput::book, STATE, "- - -", "-", "R6:9;V1;V1;E0:1");
    }

    @Sentence(of = "Promise 54", says = "Throws `UnsupportedOperationException` if the call is rejected with the reason COMMAND_REJECTED")
    static void commandRejected(Check check) {
        String[] commands = {"R5:1", "E7:1", "M1:0", "M0:5", "S1,0", "S0,1", "S0,0", "C0", "C9", "B9"};
        int[] causes = {3, 3, 4, 3, 4, 4, 5, 7, 7, 9};
        for (int index = 0; index < commands.length; index++) {
            Refusal.failed(check, SentencesOfInput::book, REJECTED, "10 0 " + causes[index], "-", commands[index]);
            Refusal.failed(check, SentencesOfInput::book, REJECTED, "10 1 " + causes[index], "-", "V0;" + commands[index] + ";X9");
        }
        Refusal.failed(check, () -> Books.with("R5:1"), REJECTED, "10 0 8", "-", "V0");
        Refusal.failed(check, () -> Books.with("R0:1;R1:1;R2:1;R3:1;R4:1"), REJECTED, "10 0 2", "-", "R5:1");
        Refusal.failed(check, () -> Books.with("E0:1;E1:1;E2:1;E3:1;E4:1;E5:1", "E6:1;E7:1;E8:1;E9:1;E10:1"), REJECTED, "10 1 1", "-",
            "E11:1;E12:1");
        Refusal.failed(check, () -> Books.with("C1;C2;C3;C4;C5;C6"), REJECTED, "10 1 6", "-", "C7;C8");
        Refusal.failed(check, () -> Books.with("T20;T20"), REJECTED, "10 1 9", "-", "T19;T1");
    }

    // ---- Promise 55

    @Sentence(of = "Promise 55", says = "Returns the offset of the latest syntax error.")
    static void latestSyntaxError(Check check) {
        BookmarkManager book = book();
        Check.answer(() -> Books.run(book, "T1;T"));
        check.due(4, "syntaxErrorOffset()", book::syntaxErrorOffset);
        Books.run(book, "T1");
        check.due(4, "syntaxErrorOffset() after a success", book::syntaxErrorOffset);
        Check.answer(() -> Books.run(book, "X9"));
        check.due(4, "syntaxErrorOffset() after a number that is not accepted", book::syntaxErrorOffset);
        Check.answer(() -> Books.run(book, "C0"));
        check.due(4, "syntaxErrorOffset() after a rejection", book::syntaxErrorOffset);
        book.undo();
        check.due(4, "syntaxErrorOffset() after undo()", book::syntaxErrorOffset);
        Check.answer(book::execute);
        check.due(0, "syntaxErrorOffset() after a later one, the lowest", book::syntaxErrorOffset);
        Check.answer(() -> Books.run(book, "T1;".repeat(20)));
        check.due(60, "syntaxErrorOffset() after a later one, the greatest", book::syntaxErrorOffset);
    }

    @Sentence(of = "Promise 55", says = "Throws `NoSuchElementException` if there was no syntax error")
    static void noSyntaxError(Check check) {
        Refusal.refused(check, BookmarkManager::new, NONE, "syntaxErrorOffset()", BookmarkManager::syntaxErrorOffset);
        Refusal.refused(check, SentencesOfInput::book, NONE, "syntaxErrorOffset()", BookmarkManager::syntaxErrorOffset);
        BookmarkManager book = book();
        Check.answer(() -> Books.run(book, "X9"));
        Check.answer(() -> Books.run(book, "C0"));
        Check.answer(() -> book.appendInput((char) 31));
        Books.type(book, "T1;");
        check.thrown(NONE, "syntaxErrorOffset() before execute()", book::syntaxErrorOffset);
        Check.answer(book::execute);
        check.due(3, "syntaxErrorOffset() after execute()", book::syntaxErrorOffset);
    }
}
