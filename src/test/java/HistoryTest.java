import java.util.function.Consumer;

/** Promises 59 to 62: undo and the snapshot. */
public final class HistoryTest {
    private static final Check CHECK = new Check("HistoryTest");
    private static final Class<IllegalStateException> NONE_LEFT = IllegalStateException.class;

    private HistoryTest() {
    }

    public static void main(String[] args) {
        undoOfEveryChange();
        eightChanges();
        changesAfterUndo();
        whatIsNoChange();
        whatUndoDoesNotCover();
        snapshots();
        snapshotAndUndo();
        CHECK.end();
    }

    /** Promise 59: each change and back again. */
    private static void undoOfEveryChange() {
        undone("addRibbon", book -> book.addRibbon(30, 1));
        undone("addDogEar", book -> book.addDogEar(30, 1));
        undone("removeMark of a ribbon", book -> book.removeMark(0));
        undone("removeMark of a dog ear", book -> book.removeMark(1));
        undone("moveRibbon", book -> book.moveRibbon(0, 59));
        undone("swapSeats", book -> book.swapSeats(0, 2));
        undone("startChapter", book -> book.startChapter(6));
        undone("voteToDissolve, not carried", book -> book.voteToDissolve(1));
        undone("voteToDissolve, carried", book -> book.voteToDissolve(0));
        undone("turnPages", book -> book.turnPages(6, false));
        undone("turnPages with a fall", book -> book.turnPages(1, true));
        undone("execute", book -> Books.run(book, "V1;T9;B9;T9;X0;R1:1"));
    }

    private static void undone(String name, Consumer<BookmarkManager> change) {
        BookmarkManager book = Books.with("R5:4;E7:2;R50:9;E40:1", "T8;B2", "C20");
        String before = Books.state(book);
        change.accept(book);
        CHECK.due(4, "undoCount() after " + name, book::undoCount);
        CHECK.due(true, name + " is seen", () -> !before.equals(Books.state(book)));
        CHECK.due(3, "undo() of " + name, book::undo);
        CHECK.due(before, "the state after undo() of " + name, () -> Books.state(book));
        CHECK.due(4, "the next id after undo() of " + name, () -> book.addDogEar(31, 1));
    }

    /** Promise 60. */
    private static void eightChanges() {
        BookmarkManager book = new BookmarkManager();
        CHECK.thrown(NONE_LEFT, "undo() of a new book", book::undo);
        for (int page = 0; page < 11; page++) {
            int want = Math.min(page + 1, 8);
            book.addDogEar(page, 1);
            CHECK.due(want, "undoCount()", book::undoCount);
        }
        for (int left = 7; left >= 0; left--) {
            CHECK.due(left, "undo()", book::undo);
            CHECK.due(left, "undoCount()", book::undoCount);
            CHECK.due(left + 3, "markCount()", book::markCount);
        }
        CHECK.thrown(NONE_LEFT, "undo() a ninth time", book::undo);
        CHECK.due(3, "markCount()", book::markCount);
        CHECK.due(3, "the id that is given next", () -> book.addDogEar(20, 1));
    }

    private static void changesAfterUndo() {
        BookmarkManager book = new BookmarkManager();
        for (int page = 0; page < 9; page++) {
            book.addDogEar(page, 1);
        }
        book.undo();
        book.undo();
        book.undo();
        CHECK.due(5, "undoCount()", book::undoCount);
        book.startChapter(30);
        book.startChapter(40);
        CHECK.due(7, "undoCount()", book::undoCount);
        CHECK.due(6, "undo()", book::undo);
        CHECK.due(2, "chapterCount()", book::chapterCount);
        CHECK.due(5, "undo()", book::undo);
        CHECK.due(6, "markCount()", book::markCount);
        CHECK.due(4, "undo()", book::undo);
        CHECK.due(5, "markCount()", book::markCount);
    }

    private static void whatIsNoChange() {
        BookmarkManager book = Books.with("R5:1");
        book.saveSnapshot();
        book.writeSeats();
        book.writeChapter(0);
        book.earsAtRisk(3, true);
        book.wouldDissolve(0);
        book.isConsistent();
        Books.type(book, "R5");
        CHECK.thrown(IllegalArgumentException.class, "execute() of R5", book::execute);
        CHECK.thrown(UnsupportedOperationException.class, "addDogEar(5, 1)", () -> book.addDogEar(5, 1));
        CHECK.thrown(IndexOutOfBoundsException.class, "removeMark(1)", () -> book.removeMark(1));
        CHECK.due(1, "undoCount()", book::undoCount);
        CHECK.due(0, "undo()", book::undo);
        CHECK.due(0, "markCount()", book::markCount);
    }

    private static void whatUndoDoesNotCover() {
        BookmarkManager book = Books.with("R5:1");
        Books.type(book, "T");
        book.undo();
        CHECK.due(2, "undo leaves the input", () -> book.appendInput('3'));
        book.saveSnapshot();
        book.restoreSnapshot();
        CHECK.due(3, "restoreSnapshot leaves the input", () -> book.appendInput(';'));
        book.writeSeats();
        book.restoreSnapshot();
        CHECK.due('-', "restoreSnapshot leaves the output", () -> book.outputAt(0));
        CHECK.thrown(IllegalArgumentException.class, "execute() of T3;", book::execute);
        book.restoreSnapshot();
        CHECK.due(3, "restoreSnapshot leaves the syntax error", book::syntaxErrorOffset);
    }

    /** Promises 61 and 62. */
    private static void snapshots() {
        BookmarkManager book = new BookmarkManager();
        CHECK.thrown(NONE_LEFT, "restoreSnapshot() without a snapshot", book::restoreSnapshot);
        CHECK.due(0, "saveSnapshot() of a new book", book::saveSnapshot);
        Books.run(book, "R5:9;E7:2;R50:9;C20");
        Books.run(book, "T8;V1");
        String saved = Books.state(book);
        CHECK.due(3, "saveSnapshot() in place of the first one", book::saveSnapshot);
        Books.run(book, "X0;E8:2;M2:9;B8;C30;V0");
        CHECK.due(3, "restoreSnapshot()", book::restoreSnapshot);
        CHECK.due(saved, "the state", () -> Books.state(book));
        CHECK.due(3, "the id that is given next", () -> book.addDogEar(55, 1));
        book.removeMark(0);
        CHECK.due(3, "restoreSnapshot() again: it is kept", book::restoreSnapshot);
        CHECK.due(saved, "the state", () -> Books.state(book));
    }

    private static void snapshotAndUndo() {
        BookmarkManager book = Books.with("R5:9", "E7:2");
        book.saveSnapshot();
        CHECK.due(2, "saving leaves the changes", book::undoCount);
        book.undo();
        book.removeMark(0);
        CHECK.due(2, "undoCount()", book::undoCount);
        CHECK.due(2, "restoreSnapshot()", book::restoreSnapshot);
        CHECK.due(0, "no change can be undone", book::undoCount);
        CHECK.thrown(NONE_LEFT, "undo()", book::undo);
        CHECK.due(2, "markCount()", book::markCount);
        book.addDogEar(9, 1);
        CHECK.due(1, "undoCount() after a change", book::undoCount);
        CHECK.due(0, "undo()", book::undo);
        CHECK.due("0r5*9w0s0 1e7*2w0 | 0 | reader 0 votes 0 0 fallen 0", "the state", () -> Books.state(book));
    }
}
