import java.util.NoSuchElementException;

/** Promises 56 to 62: the latest rejection, undo and the snapshot. */
final class SentencesOfHistory {
    private static final String NO_REJECTION = "Throws `NoSuchElementException` if no call was rejected";

    private static final Class<IllegalStateException> STATE = IllegalStateException.class;
    private static final Class<UnsupportedOperationException> REJECTED = UnsupportedOperationException.class;
    private static final Class<NoSuchElementException> NONE = NoSuchElementException.class;

    private SentencesOfHistory() {
    }

    /** Mark 0 is a ribbon on page 5, mark 1 a dog ear on page 7; two changes can be undone. */
    private static BookmarkManager book() {
        return Books.with("R5:1;E7:1", "C9");
    }

    private static void rejects(Check check, String name, Check.Call call) {
        check.thrown(REJECTED, name, call);
    }

    // ---- Promises 56 and 57

    @Sentence(of = "Promise 56", says = "Returns the reason of the latest rejection.")
    static void rejectionReason(Check check) {
        BookmarkManager book = book();
        rejects(check, "startChapter(0)", () -> book.startChapter(0));
        check.due(7, "rejectionReason()", book::rejectionReason);
        rejects(check, "turnPages(1, false)", () -> book.turnPages(1, false));
        check.due(9, "rejectionReason() after a later one", book::rejectionReason);
        book.turnPages(1, true);
        check.due(9, "rejectionReason() after a success", book::rejectionReason);
        Check.answer(() -> book.removeMark(9));
        check.due(9, "rejectionReason() after another exception", book::rejectionReason);
        Check.answer(() -> Books.run(book, "C0;"));
        check.due(9, "rejectionReason() after a syntax error", book::rejectionReason);
        Check.answer(() -> Books.run(book, "X9;C0"));
        check.due(9, "rejectionReason() after a number that is not accepted", book::rejectionReason);
        book.undo();
        check.due(9, "rejectionReason() after undo()", book::rejectionReason);
    }

    @Sentence(of = "Promise 56", says = "Returns the reason, one of the constants.")
    static void oneOfTheConstants(Check check) {
        BookmarkManager book = Books.with("E9:1", "R0:1;R1:1;R2:1;R3:1;R4:1", "E53:1;E54:1;E55:1;E56:1;E57:1;E58:1");
        reason(check, book, 1, () -> book.addRibbon(30, 1));
        book.undo();
        reason(check, book, 2, () -> book.addRibbon(30, 1));
        reason(check, book, 3, () -> book.moveRibbon(1, 9));
        reason(check, book, 4, () -> book.moveRibbon(0, 30));
        reason(check, book, 5, () -> book.swapSeats(5, 5));
        reason(check, book, 7, () -> book.startChapter(0));
        reason(check, book, 8, () -> book.voteToDissolve(0));
        reason(check, book, 9, () -> book.turnPages(1, false));
        reason(check, book, 10, () -> Books.run(book, "V0"));
        Books.run(book, "C1;C2;C3;C4;C5;C6;C7");
        reason(check, book, 6, () -> book.startChapter(8));
    }

    private static void reason(Check check, BookmarkManager book, int want, Check.Call call) {
        rejects(check, "a call with the reason " + want, call);
        check.due(want, "rejectionReason()", book::rejectionReason);
    }

    @Sentence(of = "Promise 56", says = NO_REJECTION)
    static void noReason(Check check) {
        Refusal.refused(check, BookmarkManager::new, NONE, "rejectionReason()", BookmarkManager::rejectionReason);
        Refusal.refused(check, SentencesOfHistory::unrejected, NONE, "rejectionReason()", BookmarkManager::rejectionReason);
        BookmarkManager book = unrejected();
        rejects(check, "startChapter(0)", () -> book.startChapter(0));
        check.due(7, "rejectionReason() after a rejection", book::rejectionReason);
    }

    /** Calls that throw, but none that is rejected. */
    private static BookmarkManager unrejected() {
        BookmarkManager book = book();
        Check.answer(() -> book.addRibbon(60, 0));
        Check.answer(() -> book.turnPages(21, true));
        Check.answer(() -> Books.run(book, "V0;"));
        Check.answer(() -> Books.run(book, "T1;X9"));
        Check.answer(() -> book.ribbonIn(4));
        return book;
    }

    @Sentence(of = "Promise 57", says = "Returns the detail of the latest rejection.")
    static void rejectionDetail(Check check) {
        BookmarkManager book = book();
        rejects(check, "startChapter(9)", () -> book.startChapter(9));
        check.due(1, "rejectionDetail(), the chapter", book::rejectionDetail);
        rejects(check, "addDogEar(5, 1)", () -> book.addDogEar(5, 1));
        check.due(0, "rejectionDetail(), the lowest id", book::rejectionDetail);
        rejects(check, "moveRibbon(1, 0)", () -> book.moveRibbon(1, 0));
        check.due(1, "rejectionDetail(), the mark", book::rejectionDetail);
        rejects(check, "execute() of T1;T1;C0", () -> Books.run(book, "T1;T1;C0"));
        check.due(2, "rejectionDetail(), the number of the command", book::rejectionDetail);
        rejects(check, "execute() of the 20th command", () -> Books.run(book, "T1;".repeat(19) + "C0"));
        check.due(19, "rejectionDetail(), the greatest number", book::rejectionDetail);
        Books.run(book, "T20;T20;T19");
        rejects(check, "turnPages(1, true)", () -> book.turnPages(1, true));
        check.due(59, "rejectionDetail(), the last page", book::rejectionDetail);
        Check.answer(() -> book.addRibbon(60, 1));
        book.undo();
        check.due(59, "rejectionDetail() after undo()", book::rejectionDetail);
    }

    @Sentence(of = "Promise 57", says = NO_REJECTION)
    static void noDetail(Check check) {
        Refusal.refused(check, BookmarkManager::new, NONE, "rejectionDetail()", BookmarkManager::rejectionDetail);
        Refusal.refused(check, SentencesOfHistory::unrejected, NONE, "rejectionDetail()", BookmarkManager::rejectionDetail);
        BookmarkManager book = unrejected();
        rejects(check, "startChapter(0)", () -> book.startChapter(0));
        check.due(0, "rejectionDetail() after a rejection", book::rejectionDetail);
    }

    // ---- Promise 58

    @Sentence(of = "Promise 58", says = "Returns the reason of the command that caused the latest rejection.")
    static void causeReason(Check check) {
        BookmarkManager book = book();
        rejects(check, "execute() of C0", () -> Books.run(book, "C0"));
        check.due(7, "causeReason()", book::causeReason);
        rejects(check, "execute() of T1;B2;C0", () -> Books.run(book, "T1;B2;C0"));
        check.due(9, "causeReason() after a later one", book::causeReason);
        Books.run(book, "T1");
        Check.answer(() -> Books.run(book, "T1;"));
        Check.answer(() -> Books.run(book, "X9"));
        Check.answer(() -> book.removeMark(9));
        book.undo();
        check.due(9, "causeReason() after calls that are not rejected", book::causeReason);
    }

    @Sentence(of = "Promise 58", says = "Returns the reason, one of the constants.")
    static void causeOneOfTheConstants(Check check) {
        String[] inputs = {"E59:1;E58:1", "R30:1", "E9:1", "M0:30", "S5,5", "C1;C2;C3;C4;C5;C6;C7;C8", "C0", "V0", "B1"};
        for (int index = 0; index < inputs.length; index++) {
            int cause = index + 1;
            String input = inputs[index];
            BookmarkManager book = Books.with("E9:1", "R0:1;R1:1;R2:1;R3:1;R4:1", "E53:1;E54:1;E55:1;E56:1;E57:1");
            rejects(check, "execute() of " + input, () -> Books.run(book, input));
            check.due(cause, "causeReason() of " + input, book::causeReason);
            check.due(10, "rejectionReason() of " + input, book::rejectionReason);
        }
    }

    @Sentence(of = "Promise 58",
        says = "Throws `NoSuchElementException` if no call was rejected, or the latest rejection has another reason than COMMAND_REJECTED")
    static void noCause(Check check) {
        Refusal.refused(check, BookmarkManager::new, NONE, "causeReason()", BookmarkManager::causeReason);
        Refusal.refused(check, SentencesOfHistory::unrejected, NONE, "causeReason()", BookmarkManager::causeReason);
        Refusal.refused(check, () -> Books.settled("R5:1", "C9"), NONE, "causeReason() after BOOK_END", BookmarkManager::causeReason);
        BookmarkManager book = book();
        rejects(check, "execute() of C0", () -> Books.run(book, "C0"));
        check.due(7, "causeReason()", book::causeReason);
        rejects(check, "startChapter(0)", () -> book.startChapter(0));
        check.thrown(NONE, "causeReason() after a later rejection of a call", book::causeReason);
        rejects(check, "execute() of C0", () -> Books.run(book, "C0"));
        check.due(7, "causeReason() after a later rejection of a command", book::causeReason);
    }

    // ---- Promises 59 and 60

    @Sentence(of = "Promise 59", says = "Undoes the latest change that has not been undone.")
    static void undo(Check check) {
        BookmarkManager book = new BookmarkManager();
        for (int page = 0; page < 4; page++) {
            book.addDogEar(page, 1);
        }
        book.undo();
        check.due(3, "markCount() after one undo()", book::markCount);
        book.undo();
        check.due(2, "markCount() after two", book::markCount);
        book.addRibbon(30, 1);
        book.undo();
        check.due("0e0*1w0 1e1*1w0 | 0 | reader 0 votes 0 0 fallen 0", "after a change and its undo()", () -> Books.state(book));
        book.undo();
        check.due("0e0*1w0 | 0 | reader 0 votes 0 0 fallen 0", "after the next undo()", () -> Books.state(book));
        book.undo();
        check.due("| 0 | reader 0 votes 0 0 fallen 0", "after the last one", () -> Books.state(book));
        for (int page = 0; page < 12; page++) {
            book.addDogEar(page, 1);
            book.startChapter(30);
            book.undo();
        }
        check.due("12 marks, 1 chapter", "after many changes, some undone", () -> marksAndChapters(book));
        for (int marks = 11; marks >= 5; marks--) {
            book.undo();
            check.due(marks + " marks, 1 chapter", "after undo()", () -> marksAndChapters(book));
        }
        check.thrown(STATE, "undo() once more: the 8th change was undone at once", book::undo);
    }

    private static String marksAndChapters(BookmarkManager book) {
        return book.markCount() + " marks, " + book.chapterCount() + " chapter";
    }

    @Sentence(of = "Promise 59", says = "Returns the number of changes that can still be undone.")
    static void stillToUndo(Check check) {
        check.due(0, "undo() of the only change", () -> Books.with("T1").undo());
        check.due(1, "undo() of the second change", () -> book().undo());
        check.due(7, "undo() of the 8th change", () -> turned(8).undo());
        check.due(7, "undo() of the 9th change", () -> turned(9).undo());
        check.due(7, "undo() of the 20th change", () -> turned(20).undo());
        BookmarkManager book = turned(9);
        for (int left = 7; left >= 0; left--) {
            check.due(left, "undo()", book::undo);
        }
    }

    private static BookmarkManager turned(int changes) {
        BookmarkManager book = Books.settled();
        for (int change = 0; change < changes; change++) {
            book.turnPages(1, true);
        }
        return book;
    }

    @Sentence(of = "Promise 59", says = "Throws `IllegalStateException` if there is none")
    static void nothingToUndo(Check check) {
        Refusal.refused(check, BookmarkManager::new, STATE, "undo() of a new book", BookmarkManager::undo);
        Refusal.refused(check, () -> undone(1, 1), STATE, "undo() after the only change is undone", BookmarkManager::undo);
        Refusal.refused(check, () -> undone(8, 8), STATE, "undo() after eight changes are undone", BookmarkManager::undo);
        Refusal.refused(check, () -> undone(9, 8), STATE, "undo() after the latest eight of nine are undone", BookmarkManager::undo);
        Refusal.refused(check, SentencesOfHistory::restored, STATE, "undo() after restoreSnapshot()", BookmarkManager::undo);
        check.due(0, "undo() of the last of eight", () -> undone(8, 7).undo());
        check.due(0, "undo() of the last of nine", () -> undone(9, 7).undo());
    }

    private static BookmarkManager undone(int changes, int times) {
        BookmarkManager book = turned(changes);
        for (int time = 0; time < times; time++) {
            book.undo();
        }
        return book;
    }

    private static BookmarkManager restored() {
        BookmarkManager book = Books.settled("R5:1;E7:1", "C9");
        book.restoreSnapshot();
        return book;
    }

    @Sentence(of = "Promise 60", says = "Returns the number of changes that can be undone.")
    static void undoCount(Check check) {
        check.due(0, "undoCount() of a new book", () -> new BookmarkManager().undoCount());
        for (int changes = 1; changes <= 12; changes++) {
            int number = changes;
            check.due(Math.min(changes, 8), "undoCount() after " + changes + " changes", () -> turned(number).undoCount());
        }
        check.due(7, "undoCount() after eight changes and undo()", () -> undone(8, 1).undoCount());
        check.due(7, "undoCount() after nine changes and undo()", () -> undone(9, 1).undoCount());
        check.due(0, "undoCount() after nine changes, of which eight are undone", () -> undone(9, 8).undoCount());
        check.due(0, "undoCount() after restoreSnapshot()", () -> restored().undoCount());
        BookmarkManager book = undone(9, 8);
        book.turnPages(1, true);
        check.due(1, "undoCount() after a change", book::undoCount);
        Check.answer(() -> book.startChapter(0));
        check.due(1, "undoCount() after a rejected call", book::undoCount);
    }

    // ---- Promises 61 and 62

    @Sentence(of = "Promise 61", says = "Saves a snapshot of the data, in place of an earlier snapshot.")
    static void saveSnapshot(Check check) {
        BookmarkManager book = new BookmarkManager();
        book.saveSnapshot();
        Books.run(book, "R5:1;E7:1;C9;T7");
        String saved = Books.state(book);
        book.saveSnapshot();
        check.due(saved, "the state after saveSnapshot()", () -> Books.state(book));
        check.due(1, "undoCount() after saveSnapshot()", book::undoCount);
        Books.run(book, "X0;X1;V0;B7");
        book.restoreSnapshot();
        check.due(saved, "the state of the later snapshot", () -> Books.state(book));
        BookmarkManager undone = book();
        undone.saveSnapshot();
        undone.undo();
        undone.saveSnapshot();
        undone.undo();
        undone.restoreSnapshot();
        check.due(1, "chapterCount() of the later snapshot, after undo()", undone::chapterCount);
        check.due(2, "markCount() of the later snapshot", undone::markCount);
    }

    @Sentence(of = "Promise 61", says = "Returns the number of marks.")
    static void marksSaved(Check check) {
        check.due(0, "saveSnapshot() without marks", () -> new BookmarkManager().saveSnapshot());
        check.due(1, "saveSnapshot() with one mark", () -> Books.with("E59:1").saveSnapshot());
        BookmarkManager full = Books.with("R0:1;R1:1;R2:1;R3:1;R4:1;E5:1", "E6:1;E7:1;E8:1;E9:1;E10:1;E11:1");
        check.due(12, "saveSnapshot() with 12 marks", full::saveSnapshot);
        full.removeMark(0);
        check.due(11, "saveSnapshot() in place of an earlier one", full::saveSnapshot);
    }

    @Sentence(of = "Promise 62", says = "Restores the snapshot, which is kept.")
    static void restoreSnapshot(Check check) {
        BookmarkManager book = Books.with("R5:1;E7:1;C9;T7");
        String saved = Books.state(book);
        book.saveSnapshot();
        String[] inputs = {"X0;X1;V0;B7;C30", "R0:1;S0,2;M0:59", "B7;T7;B7", "C1;C2;C3;C4;C5;C6"};
        for (String input : inputs) {
            Books.run(book, input);
            book.restoreSnapshot();
            check.due(saved, "the state after restoreSnapshot() and " + input, () -> Books.state(book));
            check.due(2, "restoreSnapshot() at once again", book::restoreSnapshot);
            check.due(saved, "the state after restoreSnapshot() twice", () -> Books.state(book));
        }
        check.due(2, "the next id", () -> book.addRibbon(59, 1));
        BookmarkManager empty = new BookmarkManager();
        empty.saveSnapshot();
        Books.run(empty, "R5:1;E7:1;C9;T7");
        check.due(0, "restoreSnapshot() of a new book", empty::restoreSnapshot);
        check.due("| 0 | reader 0 votes 0 0 fallen 0", "the state of a new book", () -> Books.state(empty));
    }

    @Sentence(of = "Promise 62", says = "No change can be undone after the call.")
    static void noUndoAfterRestore(Check check) {
        BookmarkManager book = turned(9);
        book.saveSnapshot();
        book.turnPages(1, false);
        check.due(8, "undoCount() before restoreSnapshot()", book::undoCount);
        book.restoreSnapshot();
        check.due(0, "undoCount() after restoreSnapshot()", book::undoCount);
        check.thrown(STATE, "undo()", book::undo);
        check.due(9, "currentPage()", book::currentPage);
        book.turnPages(2, true);
        check.due(1, "undoCount() after a change", book::undoCount);
        check.due(0, "undo() of that change", book::undo);
        check.due(9, "currentPage()", book::currentPage);
        check.thrown(STATE, "undo() of a change ahead of restoreSnapshot()", book::undo);
    }

    @Sentence(of = "Promise 62", says = "Returns the number of marks.")
    static void marksRestored(Check check) {
        BookmarkManager full = Books.with("R0:1;R1:1;R2:1;R3:1;R4:1;E5:1", "E6:1;E7:1;E8:1;E9:1;E10:1;E11:1");
        full.saveSnapshot();
        full.removeMark(0);
        check.due(12, "restoreSnapshot() of 12 marks", full::restoreSnapshot);
        BookmarkManager none = new BookmarkManager();
        none.saveSnapshot();
        none.addRibbon(5, 1);
        check.due(0, "restoreSnapshot() without marks", none::restoreSnapshot);
        check.due(0, "markCount()", none::markCount);
    }

    @Sentence(of = "Promise 62", says = "Throws `IllegalStateException` if there is no snapshot")
    static void noSnapshot(Check check) {
        Refusal.refused(check, BookmarkManager::new, STATE, "restoreSnapshot() of a new book", BookmarkManager::restoreSnapshot);
        Refusal.refused(check, SentencesOfHistory::book, STATE, "restoreSnapshot()", BookmarkManager::restoreSnapshot);
        Refusal.refused(check, SentencesOfHistory::unrejected, STATE, "restoreSnapshot()", BookmarkManager::restoreSnapshot);
        BookmarkManager book = book();
        book.saveSnapshot();
        check.due(2, "restoreSnapshot() after saveSnapshot()", book::restoreSnapshot);
    }
}
