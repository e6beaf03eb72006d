/** Promises 50 to 52: text output. */
public final class OutputTest {
    private static final Check CHECK = new Check("OutputTest");
    private static final Class<IndexOutOfBoundsException> NO_SUCH = IndexOutOfBoundsException.class;

    private OutputTest() {
    }

    public static void main(String[] args) {
        writeChapter();
        writeLongest();
        writeSeats();
        outputAt();
        CHECK.end();
    }

    /** Promise 50. */
    private static void writeChapter() {
        BookmarkManager book = Books.with("C10;C20", "E14:2;R12:5;R20:9;E0:1;R9:3");
        CHECK.due(17, "writeChapter(1)", () -> book.writeChapter(1));
        CHECK.due("10-19 r12*5 e14*2", "the example", () -> Books.output(book, 17));
        CHECK.due("0-9 e0*1 r9*3", "writeChapter(0)", () -> Books.chapterText(book, 0));
        CHECK.due("20-59 r20*9", "writeChapter(2)", () -> Books.chapterText(book, 2));
        Books.run(book, "C59");
        CHECK.due("59-59", "writeChapter(3)", () -> Books.chapterText(book, 3));
        CHECK.thrown(NO_SUCH, "writeChapter(4)", () -> book.writeChapter(4));
        CHECK.thrown(NO_SUCH, "writeChapter(-1)", () -> book.writeChapter(-1));
        CHECK.due("59-59", "a call that throws leaves the output", () -> Books.output(book, 5));
    }

    private static void writeLongest() {
        BookmarkManager book = Books.with("C48", "R48:9;R49:8;R50:7;R51:6;R52:5", "E53:4;E54:3;E55:2;E56:1;E57:2;E58:3;E59:4");
        CHECK.due("48-59 r48*9 r49*8 r50*7 r51*6 r52*5 e53*4 e54*3 e55*2 e56*1 e57*2 e58*3 e59*4", "the longest output",
            () -> Books.chapterText(book, 1));
        CHECK.thrown(NO_SUCH, "outputAt(77)", () -> book.outputAt(77));
    }

    /** Promise 51. */
    private static void writeSeats() {
        BookmarkManager book = new BookmarkManager();
        CHECK.due(9, "writeSeats() of a new book", book::writeSeats);
        CHECK.due("-,-,-,-,-", "its output", () -> Books.output(book, 9));
        Books.run(book, "R12:5;R0:1;E3:2;R59:1");
        CHECK.due("12,0,59,-,-", "seats of three ribbons", () -> Books.seatText(book));
        Books.run(book, "X1;S0,3");
        CHECK.due("59,-,12,-,-", "seats after a removal and a swap", () -> Books.seatText(book));
        Books.run(book, "R10:5;R11:1;R13:2");
        CHECK.due("59,10,12,11,13", "all seats", () -> Books.seatText(book));
        CHECK.due(14, "writeSeats()", book::writeSeats);
    }

    /** Promise 52. */
    private static void outputAt() {
        BookmarkManager book = new BookmarkManager();
        CHECK.thrown(NO_SUCH, "outputAt(0) of a new book", () -> book.outputAt(0));
        book.writeSeats();
        CHECK.due(4, "writeChapter(0) replaces the output", () -> book.writeChapter(0));
        CHECK.due('0', "outputAt(0)", () -> book.outputAt(0));
        CHECK.due('-', "outputAt(1)", () -> book.outputAt(1));
        CHECK.due('9', "outputAt(3)", () -> book.outputAt(3));
        for (int index : new int[] {-1, 4, 8, Integer.MAX_VALUE, Integer.MIN_VALUE}) {
            CHECK.thrown(NO_SUCH, "outputAt(" + index + ")", () -> book.outputAt(index));
        }
        Books.run(book, "R7:1");
        CHECK.due("0-59", "a change leaves the output", () -> Books.output(book, 4));
        book.undo();
        CHECK.due("0-59", "undo leaves the output", () -> Books.output(book, 4));
        book.writeSeats();
        CHECK.due("-,-,-,-,-", "writeSeats() replaces the output", () -> Books.output(book, 9));
    }
}
