import java.util.NoSuchElementException;

/** Promises 56 to 58: the latest rejection. */
public final class RejectionsTest {
    private static final Check CHECK = new Check("RejectionsTest");
    private static final Class<NoSuchElementException> NONE = NoSuchElementException.class;
    private static final Class<UnsupportedOperationException> REJECTED = UnsupportedOperationException.class;

    private RejectionsTest() {
    }

    public static void main(String[] args) {
        noneAtFirst();
        everyReason();
        causes();
        whatLeavesItAlone();
        nothingElseChanges();
        CHECK.end();
    }

    private static void noneAtFirst() {
        BookmarkManager book = new BookmarkManager();
        CHECK.thrown(NONE, "rejectionReason()", book::rejectionReason);
        CHECK.thrown(NONE, "rejectionDetail()", book::rejectionDetail);
        CHECK.thrown(NONE, "causeReason()", book::causeReason);
    }

    private static void everyReason() {
        BookmarkManager book = Books.with("E50:1", "R5:1;R6:1;R7:1;R8:1;R9:1", "C10;C20;C30;C40;C50;C55;C58");
        told(book, () -> book.addRibbon(1, 1), BookmarkManager.NO_FREE_SEAT, 5);
        told(book, () -> book.addDogEar(9, 1), BookmarkManager.PAGE_HELD, 5);
        told(book, () -> book.moveRibbon(0, 1), BookmarkManager.NOT_A_RIBBON, 0);
        told(book, () -> book.moveRibbon(3, 7), BookmarkManager.PAGE_HELD, 3);
        told(book, () -> book.swapSeats(1, 0), BookmarkManager.NOT_A_RIBBON, 0);
        told(book, () -> book.swapSeats(4, 4), BookmarkManager.SAME_RIBBON, 4);
        told(book, () -> book.startChapter(1), BookmarkManager.CHAPTER_LIMIT, 8);
        told(book, () -> book.turnPages(1, false), BookmarkManager.BOOK_END, 0);
        Books.run(book, "E11:1;E12:1;E13:1;E14:1;E15:1;E16:1");
        told(book, () -> book.addDogEar(1, 1), BookmarkManager.MARK_LIMIT, 12);
        book.undo();
        book.undo();
        told(book, () -> book.startChapter(0), BookmarkManager.CHAPTER_START, 0);
        told(book, () -> book.voteToDissolve(0), BookmarkManager.ONLY_CHAPTER, 0);
        told(book, () -> Books.run(book, "T1;B1;V0"), BookmarkManager.COMMAND_REJECTED, 2);
    }

    private static void told(BookmarkManager book, Check.Call call, int reason, int detail) {
        CHECK.thrown(REJECTED, "a call with the reason " + reason, call);
        CHECK.due(reason, "rejectionReason()", book::rejectionReason);
        CHECK.due(detail, "rejectionDetail()", book::rejectionDetail);
        if (reason != BookmarkManager.COMMAND_REJECTED) {
            CHECK.thrown(NONE, "causeReason() with the reason " + reason, book::causeReason);
        }
    }

    /** Promise 58. */
    private static void causes() {
        BookmarkManager book = new BookmarkManager();
        CHECK.thrown(REJECTED, "B1", () -> Books.run(book, "B1"));
        CHECK.due("10 0 9", "its rejection", () -> Books.rejection(book));
        CHECK.thrown(REJECTED, "T1;V0", () -> Books.run(book, "T1;V0"));
        CHECK.due("10 1 8", "the latest rejection", () -> Books.rejection(book));
        CHECK.thrown(REJECTED, "voteToDissolve(0)", () -> book.voteToDissolve(0));
        CHECK.due("8 0 -", "a rejection without a cause", () -> Books.rejection(book));
        CHECK.thrown(REJECTED, "R0:1;R0:1", () -> Books.run(book, "R0:1;R0:1"));
        CHECK.due("10 1 3", "the latest rejection", () -> Books.rejection(book));
    }

    private static void whatLeavesItAlone() {
        BookmarkManager book = Books.with("R5:1");
        CHECK.thrown(REJECTED, "addDogEar(5, 1)", () -> book.addDogEar(5, 1));
        book.saveSnapshot();
        book.addDogEar(6, 1);
        CHECK.due("3 0 -", "a success", () -> Books.rejection(book));
        book.undo();
        CHECK.due("3 0 -", "undo", () -> Books.rejection(book));
        book.undo();
        CHECK.due("3 0 -", "undo to a time ahead of it", () -> Books.rejection(book));
        book.restoreSnapshot();
        CHECK.due("3 0 -", "restoreSnapshot", () -> Books.rejection(book));
        CHECK.thrown(IndexOutOfBoundsException.class, "addRibbon(60, 1)", () -> book.addRibbon(60, 1));
        CHECK.due("3 0 -", "another exception", () -> Books.rejection(book));
        CHECK.thrown(IllegalStateException.class, "T1;R60:1", () -> Books.run(book, "T1;R60:1"));
        CHECK.due("3 0 -", "a command that is not accepted", () -> Books.rejection(book));
        CHECK.thrown(IllegalArgumentException.class, "V0;", () -> Books.run(book, "V0;"));
        CHECK.due("3 0 -", "a syntax error", () -> Books.rejection(book));
    }

    private static void nothingElseChanges() {
        BookmarkManager book = Books.with("R5:1;E6:2", "T6");
        String before = Books.state(book);
        CHECK.thrown(REJECTED, "addRibbon(5, 1)", () -> book.addRibbon(5, 1));
        CHECK.thrown(REJECTED, "moveRibbon(0, 6)", () -> book.moveRibbon(0, 6));
        CHECK.thrown(REJECTED, "startChapter(0)", () -> book.startChapter(0));
        CHECK.thrown(REJECTED, "voteToDissolve(0)", () -> book.voteToDissolve(0));
        CHECK.thrown(REJECTED, "turnPages(7, false)", () -> book.turnPages(7, false));
        CHECK.due(before, "the state", () -> Books.state(book));
        CHECK.due(2, "undoCount()", book::undoCount);
        CHECK.due(2, "the next id", () -> book.addDogEar(30, 1));
    }
}
