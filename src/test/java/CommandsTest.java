import java.util.NoSuchElementException;

/** Promises 53 to 55: the command language. */
public final class CommandsTest {
    private static final Check CHECK = new Check("CommandsTest");
    private static final Class<IllegalArgumentException> SYNTAX = IllegalArgumentException.class;
    private static final Class<IllegalStateException> NOT_ACCEPTED = IllegalStateException.class;
    private static final Class<UnsupportedOperationException> REJECTED = UnsupportedOperationException.class;
    private static final Class<NoSuchElementException> NONE = NoSuchElementException.class;

    private CommandsTest() {
    }

    public static void main(String[] args) {
        appendInput();
        everyCommand();
        numbersOfCommands();
        allOrNone();
        notAccepted();
        rejected();
        firstFailureCounts();
        syntaxErrors();
        latestSyntaxError();
        shorterInput();
        fullInput();
        CHECK.end();
    }

    /** Promise 53. */
    private static void appendInput() {
        BookmarkManager book = new BookmarkManager();
        CHECK.due(1, "appendInput(' ')", () -> book.appendInput((char) 32));
        CHECK.due(2, "appendInput('~')", () -> book.appendInput((char) 126));
        for (char character : new char[] {0, 31, 127, 128, 256 + 'R', Character.MAX_VALUE}) {
            CHECK.thrown(SYNTAX, "appendInput((char) " + (int) character + ")", () -> book.appendInput(character));
        }
        for (int length = 3; length <= 60; length++) {
            CHECK.due(length, "appendInput('1')", () -> book.appendInput('1'));
        }
        CHECK.thrown(NOT_ACCEPTED, "appendInput('1') to 60 characters", () -> book.appendInput('1'));
        CHECK.thrown(SYNTAX, "the code comes first", () -> book.appendInput((char) 127));
        CHECK.thrown(SYNTAX, "execute()", book::execute);
        CHECK.due(1, "the input is empty after a syntax error", () -> book.appendInput('X'));
    }

    /** Promise 54: what the commands do. */
    private static void everyCommand() {
        BookmarkManager book = new BookmarkManager();
        executes(book, "R5:3", "0r5*3w0s0 | 0 | reader 0 votes 0 0 fallen 0");
        executes(book, "E007:9", "0r5*3w0s0 1e7*9w0 | 0 | reader 0 votes 0 0 fallen 0");
        executes(book, "R59:1", "0r5*3w0s0 1e7*9w0 2r59*1w0s1 | 0 | reader 0 votes 0 0 fallen 0");
        executes(book, "S0,2", "0r5*3w0s1 1e7*9w0 2r59*1w0s0 | 0 | reader 0 votes 0 0 fallen 0");
        executes(book, "M2:0", "2r0*1w0s0 0r5*3w0s1 1e7*9w0 | 0 | reader 0 votes 0 0 fallen 0");
        executes(book, "C06", "2r0*1w0s0 0r5*3w0s1 1e7*9w0 | 0 6 | reader 0 votes 0 0 fallen 0");
        executes(book, "V1", "2r0*1w0s0 0r5*3w0s1 1e7*9w0 | 0 6 | reader 0 votes 1 0 fallen 0");
        executes(book, "T20", "2r0*1w0s0 0r5*3w0s1 1e7*9w1 | 0 6 | reader 20 votes 1 0 fallen 0");
        executes(book, "B1", "2r0*1w0s0 0r5*3w0s1 1e7*9w1 | 0 6 | reader 19 votes 1 0 fallen 0");
        executes(book, "X1", "2r0*1w0s0 0r5*3w0s1 | 0 6 | reader 19 votes 1 0 fallen 0");
        executes(book, "V1", "2r0*1w0s0 0r5*3w0s1 | 0 | reader 19 votes 2 1 fallen 0");
        CHECK.thrown(NONE, "no syntax error so far", book::syntaxErrorOffset);
    }

    private static void executes(BookmarkManager book, String input, String want) {
        CHECK.due(1, "execute() of " + input, () -> Books.run(book, input));
        CHECK.due(want, "the state after " + input, () -> Books.state(book));
    }

    private static void numbersOfCommands() {
        BookmarkManager book = new BookmarkManager();
        CHECK.due(7, "seven commands", () -> Books.run(book, "R12:5;E14:2;R40:4;C10;C20;V1;T14"));
        CHECK.due("0r12*5w0s0 1e14*2w1 2r40*4w0s1 | 0 10 20 | reader 14 votes 1 0 fallen 0", "their effects",
            () -> Books.state(book));
        CHECK.due(1, "they are one change", book::undoCount);
        CHECK.due(20, "twenty commands", () -> Books.run(book, "T1;B1;T1;B1;T1;B1;T1;B1;T1;B1;T1;B1;T1;B1;T1;B1;T1;B1;T1;B1"));
        CHECK.due(1, "the input is empty after a success", () -> book.appendInput('X'));
    }

    private static void allOrNone() {
        BookmarkManager book = Books.with("R5:3;E7:2;C10");
        String before = Books.state(book);
        CHECK.thrown(REJECTED, "the last of six fails", () -> Books.run(book, "T9;B9;X0;E20:1;V1;C10"));
        CHECK.due(before, "a rejected input changes nothing", () -> Books.state(book));
        CHECK.thrown(NOT_ACCEPTED, "the last of five fails", () -> Books.run(book, "T9;X0;E20:1;V1;C60"));
        CHECK.due(before, "a failed input changes nothing", () -> Books.state(book));
        CHECK.due(1, "no change to undo", book::undoCount);
        CHECK.due(2, "no id was given", () -> book.addDogEar(20, 1));
        CHECK.due(1, "the input is empty after a failure", () -> book.appendInput('X'));
    }

    private static void notAccepted() {
        String[] inputs = {"R60:1", "R999:1", "R1:0", "E60:1", "E1:0", "X2", "X100", "M2:1", "M0:60", "M1:60", "S0,2", "S2,0",
            "S1,2", "C60", "V1", "V9", "T0", "T00", "T21", "T999", "B0", "B21", "B000"};
        for (String input : inputs) {
            BookmarkManager book = Books.with("R5:3;E7:2");
            CHECK.thrown(NOT_ACCEPTED, "execute() of " + input, () -> Books.run(book, input));
            CHECK.due("- - -", "it is no rejection", () -> Books.rejection(book));
            CHECK.thrown(NONE, "it is no syntax error", book::syntaxErrorOffset);
        }
        BookmarkManager later = new BookmarkManager();
        CHECK.thrown(NOT_ACCEPTED, "an id that is gone", () -> Books.run(later, "E1:1;X0;X0"));
        CHECK.thrown(NOT_ACCEPTED, "a chapter that is gone", () -> Books.run(later, "C5;R9:1;V0;V1"));
        CHECK.due(2, "a mark that an earlier command adds", () -> Books.run(later, "E1:1;X0"));
    }

    private static void rejected() {
        rejects("R5:1", 0, 3);
        rejects("E7:1", 0, 3);
        rejects("M1:3", 0, 4);
        rejects("M0:5", 0, 3);
        rejects("S1,0", 0, 4);
        rejects("S0,0", 0, 5);
        rejects("C0", 0, 7);
        rejects("V0", 0, 8);
        rejects("B1", 0, 9);
        rejects("R1:1;R2:1;R3:1;R4:1;R6:1", 4, 2);
        rejects("E0:1;E1:1;E2:1;E3:1;E4:1;E6:1;E8:1;E9:1;E10:1;E11:1;E5:1", 10, 1);
        rejects("C1;C2;C3;C4;C5;C6;C7;C7", 7, 6);
        rejects("T20;T20;T19;T1", 3, 9);
    }

    private static void rejects(String input, int number, int cause) {
        BookmarkManager book = Books.with("R5:3;E7:2");
        CHECK.thrown(REJECTED, "execute() of " + input, () -> Books.run(book, input));
        CHECK.due("10 " + number + " " + cause, "the rejection of " + input, () -> Books.rejection(book));
    }

    private static void firstFailureCounts() {
        BookmarkManager book = Books.with("R5:3");
        CHECK.thrown(REJECTED, "a rejection ahead of a bad page", () -> Books.run(book, "R5:1;R60:1"));
        CHECK.due("10 0 3", "its rejection", () -> Books.rejection(book));
        CHECK.thrown(NOT_ACCEPTED, "a bad page ahead of a rejection", () -> Books.run(book, "R60:1;V0"));
        CHECK.due("10 0 3", "the rejection stays", () -> Books.rejection(book));
        CHECK.thrown(SYNTAX, "a syntax error behind both", () -> Books.run(book, "R60:1;V0;"));
        CHECK.due("10 0 3", "the rejection stays", () -> Books.rejection(book));
        CHECK.thrown(NOT_ACCEPTED, "a weight of 0 ahead of the page's mark", () -> Books.run(book, "R5:0"));
    }

    /** Promise 55: the offsets. */
    private static void syntaxErrors() {
        String[] inputs = {"", "Q", "r5:1", " R5:1", "R", "R:", "R5", "R5,", "R5:", "R5:x", "R5:12", "R5:1 ", "R5:1;", "R5:1;;",
            "R1234", "R123:4", "R123,4", "E5:11", "E", "X", "X;", "X1;", "X12 ", "X1234", "X1:1", "M1", "M1,", "M1:", "M1:1234",
            "M1:123", "M1234", "S1", "S1:", "S1,", "S1,1,", "S1,1234", "C", "C1:", "C1234", "V", "V12", "Vx", "V1;V", "T1234",
            "T-1", "B", "B1234", "T1;B", "T1;B1;Q", ";", "1", "R/:1", "R::1", "X1;X2;X3;X4;X5;X6;X7;X8;X9;X10;X11;X12;X13;X14;xx"};
        int[] offsets = {0, 0, 0, 0, 1, 1, 2, 2, 3, 3, 4, 4, 5, 5,
            4, -1, 4, 4, 1, 1, 1, 3, 3, 4, 2, 2, 2, 3, 6,
            -1, 4, 2, 2, 3, 4, 6, 1, 2, 4, 1, 2, 1, 4, 4,
            1, 1, 4, 4, 6, 0, 0, 1, 1, 47};
        for (int index = 0; index < inputs.length; index++) {
            BookmarkManager book = new BookmarkManager();
            String input = inputs[index];
            if (offsets[index] < 0) {
                CHECK.thrown(NOT_ACCEPTED, "execute() of " + input, () -> Books.run(book, input));
                CHECK.thrown(NONE, "no syntax error in " + input, book::syntaxErrorOffset);
            } else {
                CHECK.thrown(SYNTAX, "execute() of " + input, () -> Books.run(book, input));
                CHECK.due(offsets[index], "syntaxErrorOffset() of " + input, book::syntaxErrorOffset);
            }
        }
    }

    private static void latestSyntaxError() {
        BookmarkManager book = new BookmarkManager();
        CHECK.thrown(NONE, "syntaxErrorOffset() of a new book", book::syntaxErrorOffset);
        CHECK.thrown(SYNTAX, "execute() of R5", () -> Books.run(book, "R5"));
        CHECK.due(0, "a syntax error is no change", book::undoCount);
        Books.run(book, "R5:1");
        CHECK.due(2, "a success leaves the syntax error", book::syntaxErrorOffset);
        book.undo();
        CHECK.due(2, "undo leaves the syntax error", book::syntaxErrorOffset);
        CHECK.thrown(REJECTED, "execute() of V0", () -> Books.run(book, "V0"));
        CHECK.due(2, "a rejection leaves the syntax error", book::syntaxErrorOffset);
        CHECK.thrown(SYNTAX, "execute() of Q", () -> Books.run(book, "Q"));
        CHECK.due(0, "the latest syntax error counts", book::syntaxErrorOffset);
    }

    /** Nothing of an earlier input is read again. */
    private static void shorterInput() {
        BookmarkManager book = new BookmarkManager();
        String[] inputs = {"R50:1;X0;R1:1", "R50:1", "R50:", "R50", "R5", "R"};
        for (int index = 0; index < inputs.length; index++) {
            String input = inputs[index];
            if (index < 2) {
                CHECK.due(index == 0 ? 3 : 1, "execute() of " + input, () -> Books.run(book, input));
            } else {
                CHECK.thrown(SYNTAX, "execute() of " + input, () -> Books.run(book, input));
                CHECK.due(input.length(), "syntaxErrorOffset() of " + input, book::syntaxErrorOffset);
            }
        }
        CHECK.thrown(SYNTAX, "execute() of the empty input", book::execute);
        CHECK.due(0, "syntaxErrorOffset() of the empty input", book::syntaxErrorOffset);
        CHECK.due(1, "execute() of X1", () -> Books.run(book, "X1"));
        CHECK.due(1, "one mark is left", book::markCount);
    }

    /** Sixty characters: the input ends too early at its length, as any input does. */
    private static void fullInput() {
        BookmarkManager book = new BookmarkManager();
        String twenty = "X1;X1;X1;X1;X1;X1;X1;X1;X1;X1;X1;X1;X1;X1;X1;X1;X1;X1;X1;X1;";
        CHECK.due(60, "its length", twenty::length);
        CHECK.thrown(SYNTAX, "execute() of twenty commands and a semicolon", () -> Books.run(book, twenty));
        CHECK.due(60, "syntaxErrorOffset()", book::syntaxErrorOffset);
        CHECK.due(15, "60 characters without an error", () -> Books.run(book, "T20;B20;T20;B20;T20;B20;T20;B20;T20;B20;T20;B20;T20;B20;T010"));
        CHECK.due(10, "currentPage()", book::currentPage);
    }
}
