import java.util.NoSuchElementException;

/** Promises 31 to 34: the reader. */
public final class ReaderTest {
    private static final Check CHECK = new Check("ReaderTest");
    private static final Class<IllegalArgumentException> BAD = IllegalArgumentException.class;
    private static final Class<UnsupportedOperationException> REJECTED = UnsupportedOperationException.class;
    private static final Class<NoSuchElementException> NONE = NoSuchElementException.class;

    private ReaderTest() {
    }

    public static void main(String[] args) {
        turning();
        wearing();
        falling();
        wearOfNewEars();
        allEarsFall();
        bookEnds();
        countOutOfRange();
        pagesToNextMark();
        earsAtRisk();
        CHECK.end();
    }

    /** Promises 31 and 32. */
    private static void turning() {
        BookmarkManager book = new BookmarkManager();
        CHECK.due(0, "currentPage()", book::currentPage);
        CHECK.due(0, "turnPages(20, true)", () -> book.turnPages(20, true));
        CHECK.due(20, "currentPage()", book::currentPage);
        CHECK.due(0, "turnPages(1, false)", () -> book.turnPages(1, false));
        CHECK.due(19, "currentPage()", book::currentPage);
        CHECK.due(0, "turnPages(19, false)", () -> book.turnPages(19, false));
        CHECK.due(0, "currentPage()", book::currentPage);
        CHECK.due(3, "undoCount()", book::undoCount);
    }

    private static void wearing() {
        BookmarkManager book = Books.with("E0:1;E1:1;E5:1;E6:1;R3:1");
        book.turnPages(5, true);
        CHECK.due("0e0*1w0 1e1*1w1 4r3*1w0s0 2e5*1w1 3e6*1w0 | 0 | reader 5 votes 0 0 fallen 0",
            "from the next page to the new one", () -> Books.state(book));
        book.turnPages(4, false);
        CHECK.due("0e0*1w0 1e1*1w2 4r3*1w0s0 2e5*1w1 3e6*1w0 | 0 | reader 1 votes 0 0 fallen 0",
            "back to the new page, the page left not counted", () -> Books.state(book));
        book.turnPages(1, false);
        CHECK.due(1, "wearOf(0)", () -> book.wearOf(0));
        CHECK.due(2, "wearOf(1), the page left", () -> book.wearOf(1));
    }

    private static void falling() {
        BookmarkManager book = Books.with("E2:1;E4:2;E3:3;R5:1", "T10;B10");
        CHECK.due(2, "wearOf(0)", () -> book.wearOf(0));
        CHECK.due(3, "turnPages(4, true): three fall off", () -> book.turnPages(4, true));
        CHECK.due("3r5*1w0s0 | 0 | reader 4 votes 0 0 fallen 3", "what is left", () -> Books.state(book));
        CHECK.due(0, "turnPages(1, true)", () -> book.turnPages(1, true));
        CHECK.due(3, "fallenEars()", book::fallenEars);
        Books.run(book, "E9:1;T4;B1;T1");
        CHECK.due(2, "wearOf(4)", () -> book.wearOf(4));
        Books.run(book, "B1");
        CHECK.due(1, "turnPages(20, true)", () -> book.turnPages(20, true));
        CHECK.due(4, "fallenEars()", book::fallenEars);
    }

    /** A new dog ear has no wear, whatever mark was there ahead of it. */
    private static void wearOfNewEars() {
        BookmarkManager book = Books.with("E1:1;E2:1", "T5;X0;X1");
        CHECK.due(2, "addDogEar(9, 1)", () -> book.addDogEar(9, 1));
        CHECK.due(0, "wearOf(2)", () -> book.wearOf(2));
        CHECK.due(3, "addDogEar(1, 1)", () -> book.addDogEar(1, 1));
        CHECK.due(0, "wearOf(3)", () -> book.wearOf(3));
        Books.run(book, "T4;E10:5;X2");
        CHECK.due(0, "wearOf(4)", () -> book.wearOf(4));
    }

    private static void allEarsFall() {
        BookmarkManager book = Books.with("E1:1;E2:1;E3:1;E4:1;E5:1;E6:1;E7:1;E8:1;E9:1;E10:1;E11:1", "E12:1", "T13;B13");
        CHECK.due(12, "earsAtRisk(12, true)", () -> book.earsAtRisk(12, true));
        CHECK.due(12, "turnPages(12, true)", () -> book.turnPages(12, true));
        CHECK.due(12, "fallenEars()", book::fallenEars);
        CHECK.due(0, "earsAtRisk(12, false)", () -> book.earsAtRisk(12, false));
        CHECK.due(0, "turnPages(12, false)", () -> book.turnPages(12, false));
        CHECK.due(12, "fallenEars()", book::fallenEars);
    }

    private static void bookEnds() {
        BookmarkManager book = Books.with("T20;T20;T18");
        CHECK.thrown(REJECTED, "turnPages(2, true) on page 58", () -> book.turnPages(2, true));
        CHECK.due("9 58 -", "BOOK_END", () -> Books.rejection(book));
        CHECK.due(58, "currentPage()", book::currentPage);
        CHECK.due(0, "turnPages(1, true) to the last page", () -> book.turnPages(1, true));
        CHECK.thrown(REJECTED, "turnPages(1, true) on page 59", () -> book.turnPages(1, true));
        CHECK.due("9 59 -", "BOOK_END", () -> Books.rejection(book));
        BookmarkManager start = Books.with("T3");
        CHECK.thrown(REJECTED, "turnPages(4, false) on page 3", () -> start.turnPages(4, false));
        CHECK.due("9 3 -", "BOOK_END at the start", () -> Books.rejection(start));
        CHECK.due(0, "turnPages(3, false) on page 3", () -> start.turnPages(3, false));
    }

    private static void countOutOfRange() {
        BookmarkManager book = new BookmarkManager();
        for (int count : new int[] {0, -1, 21, Integer.MAX_VALUE, Integer.MIN_VALUE}) {
            CHECK.thrown(BAD, "turnPages(" + count + ", true)", () -> book.turnPages(count, true));
            CHECK.thrown(BAD, "turnPages(" + count + ", false)", () -> book.turnPages(count, false));
            CHECK.thrown(BAD, "earsAtRisk(" + count + ", true)", () -> book.earsAtRisk(count, true));
            CHECK.thrown(BAD, "earsAtRisk(" + count + ", false)", () -> book.earsAtRisk(count, false));
        }
        CHECK.due("- - -", "no rejection", () -> Books.rejection(book));
    }

    /** Promise 33. */
    private static void pagesToNextMark() {
        BookmarkManager book = Books.with("R0:1;E12:1;R59:1");
        CHECK.due(12, "pagesToNextMark() on page 0, which is held", book::pagesToNextMark);
        Books.run(book, "T11");
        CHECK.due(1, "pagesToNextMark() on page 11", book::pagesToNextMark);
        Books.run(book, "T1");
        CHECK.due(47, "pagesToNextMark() on page 12", book::pagesToNextMark);
        Books.run(book, "T20;T20;T7");
        CHECK.thrown(NONE, "pagesToNextMark() on page 59", book::pagesToNextMark);
        CHECK.thrown(NONE, "pagesToNextMark() without marks", () -> new BookmarkManager().pagesToNextMark());
    }

    /** Promise 34. */
    private static void earsAtRisk() {
        BookmarkManager book = Books.with("E5:1;E9:1;E1:1;R4:1", "T10;B10");
        CHECK.due(3, "earsAtRisk(20, true)", () -> book.earsAtRisk(20, true));
        CHECK.due(3, "earsAtRisk(9, true)", () -> book.earsAtRisk(9, true));
        CHECK.due(2, "earsAtRisk(8, true)", () -> book.earsAtRisk(8, true));
        CHECK.due(1, "earsAtRisk(1, true)", () -> book.earsAtRisk(1, true));
        CHECK.due(0, "earsAtRisk(20, false)", () -> book.earsAtRisk(20, false));
        CHECK.due(0, "asking lets none fall", book::fallenEars);
        BookmarkManager mixed = Books.with("E2:1;E4:1;E6:1;E8:1", "T7;B3;B4;E9:1");
        CHECK.due("0e2*1w2 1e4*1w2 2e6*1w2 3e8*1w0 4e9*1w0 | 0 | reader 0 votes 0 0 fallen 0", "dog ears of wear 0 and 2",
            () -> Books.state(mixed));
        CHECK.due(3, "earsAtRisk(20, true)", () -> mixed.earsAtRisk(20, true));
        Books.run(mixed, "T1;E15:1;T16;B1");
        CHECK.due("3e8*1w1 4e9*1w1 5e15*1w1 | 0 | reader 16 votes 0 0 fallen 3", "dog ears of wear 1",
            () -> Books.state(mixed));
        CHECK.due(0, "earsAtRisk(20, false)", () -> mixed.earsAtRisk(20, false));
        BookmarkManager far = Books.with("E55:1;E50:1;E45:1", "T20;T20;T19;B19;T12");
        CHECK.due(52, "currentPage()", far::currentPage);
        CHECK.due(0, "earsAtRisk(1, true)", () -> far.earsAtRisk(1, true));
        CHECK.due(1, "earsAtRisk(20, true) over the end", () -> far.earsAtRisk(20, true));
        CHECK.due(1, "earsAtRisk(3, true), the new page", () -> far.earsAtRisk(3, true));
        CHECK.due(0, "earsAtRisk(20, false): the two behind have fallen", () -> far.earsAtRisk(20, false));
        BookmarkManager low = Books.with("E2:1;E6:1", "T3;B1;T1");
        CHECK.due(0, "the dog ear ahead has no wear", () -> low.earsAtRisk(20, true));
        CHECK.due(1, "earsAtRisk(1, false)", () -> low.earsAtRisk(1, false));
        CHECK.due(1, "earsAtRisk(20, false) over the start", () -> low.earsAtRisk(20, false));
        BookmarkManager on = Books.with("E2:1", "T2;B1;T1");
        CHECK.due(0, "the current page does not count forward", () -> on.earsAtRisk(20, true));
        CHECK.due(0, "the current page does not count backward", () -> on.earsAtRisk(20, false));
    }
}
