import java.util.NoSuchElementException;
import java.util.function.Consumer;

/** The terms "Changes" and "Exceptions". */
final class SentencesOfChanges {
    private static final Class<IndexOutOfBoundsException> NO_SUCH = IndexOutOfBoundsException.class;
    private static final Class<IllegalArgumentException> BAD = IllegalArgumentException.class;
    private static final Class<IllegalStateException> STATE = IllegalStateException.class;
    private static final Class<UnsupportedOperationException> REJECTED = UnsupportedOperationException.class;
    private static final Class<NoSuchElementException> NONE = NoSuchElementException.class;

    private SentencesOfChanges() {
    }

    /**
     * Marks 0 and 2 are ribbons on the pages 0 and 50, mark 1 is a dog ear of wear 2 on page 7, mark 4 one of wear 0
     * on page 12, and mark 3 has fallen off; a vote was carried, the chapters start on the pages 0 and 5, and the
     * reader is on page 8.
     */
    private static BookmarkManager book() {
        return Books.settled("R0:9;E7:2;R50:4;E2:1;E12:1", "C30;V1;C5;T3;B3;T3", "B1;T6;B1;T1");
    }

    // ---- Changes

    @Sentence(of = "Terms, Changes",
        says = "A change is a call of addRibbon, addDogEar, removeMark, moveRibbon, swapSeats, startChapter, voteToDissolve, turnPages or execute that returns a value, whatever the value is.")
    static void changes(Check check) {
        BookmarkManager book = new BookmarkManager();
        counts(check, book, 1, "addRibbon, which returns 0", at -> at.addRibbon(0, 1));
        counts(check, book, 2, "addDogEar", at -> at.addDogEar(1, 1));
        counts(check, book, 3, "addRibbon", at -> at.addRibbon(59, 9));
        counts(check, book, 4, "moveRibbon, which returns 0", at -> at.moveRibbon(0, 2));
        counts(check, book, 5, "swapSeats, which returns 0", at -> at.swapSeats(2, 0));
        counts(check, book, 6, "startChapter", at -> at.startChapter(1));
        counts(check, book, 7, "voteToDissolve, which returns false", at -> at.voteToDissolve(1));
        counts(check, book, 8, "turnPages, which returns 0", at -> at.turnPages(1, true));
        BookmarkManager more = Books.settled("R0:9;C30;E1:1");
        counts(check, more, 2, "voteToDissolve, which returns true", at -> at.voteToDissolve(1));
        counts(check, more, 3, "removeMark, which returns 0", at -> at.removeMark(0));
        counts(check, more, 4, "execute of C31", at -> Books.run(at, "1"));
        counts(check, more, 5, "execute of T1;B1", at -> Books.run(at, "T1;B1"));
        counts(check, more, 6, "turnPages, which returns 0", at -> at.turnPages(1, true));
        counts(check, more, 7, "removeMark", at -> at.removeMark(1));
        counts(check, Books.with("E1:1", "T1;B1;T1;B1"), 3, "turnPages, which returns 1", at -> at.turnPages(1, true));
        noChanges(check);
    }

    private static void counts(Check check, BookmarkManager book, int want, String name, Consumer<BookmarkManager> call) {
        call.accept(book);
        check.due(want, "undoCount() after " + name, book::undoCount);
    }

    private static void noChanges(Check check) {
        counts(check, book(), 3, "saveSnapshot", BookmarkManager::saveSnapshot);
        counts(check, book(), 3, "appendInput", at -> at.appendInput('1'));
        counts(check, book(), 3, "writeChapter", at -> at.writeChapter(0));
        counts(check, book(), 3, "writeSeats", BookmarkManager::writeSeats);
        counts(check, book(), 3, "wouldDissolve", at -> at.wouldDissolve(0));
        counts(check, book(), 3, "earsAtRisk", at -> at.earsAtRisk(20, false));
        counts(check, book(), 3, "isConsistent", BookmarkManager::isConsistent);
        counts(check, book(), 3, "addRibbon, which throws", at -> Check.answer(() -> at.addRibbon(0, 1)));
        counts(check, book(), 3, "addDogEar, which throws", at -> Check.answer(() -> at.addDogEar(1, 10)));
        counts(check, book(), 3, "removeMark, which throws", at -> Check.answer(() -> at.removeMark(3)));
        counts(check, book(), 3, "moveRibbon, which throws", at -> Check.answer(() -> at.moveRibbon(0, 0)));
        counts(check, book(), 3, "swapSeats, which throws", at -> Check.answer(() -> at.swapSeats(0, 0)));
        counts(check, book(), 3, "startChapter, which throws", at -> Check.answer(() -> at.startChapter(0)));
        counts(check, book(), 3, "voteToDissolve, which throws", at -> Check.answer(() -> at.voteToDissolve(2)));
        counts(check, book(), 3, "turnPages, which throws", at -> Check.answer(() -> at.turnPages(9, false)));
        counts(check, book(), 3, "execute, which throws", at -> Check.answer(() -> Books.run(at, ";")));
    }

    @Sentence(of = "Terms, Changes", says = "The latest 8 changes can be undone.")
    static void latestChanges(Check check) {
        for (int changes = 0; changes <= 10; changes++) {
            BookmarkManager book = new BookmarkManager();
            for (int page = 0; page < changes; page++) {
                book.addDogEar(page, 1);
            }
            int undone = Math.min(changes, 8);
            check.due(undone, "undoCount() after " + changes + " changes", book::undoCount);
            for (int left = undone - 1; left >= 0; left--) {
                check.due(left, "undo() after " + changes + " changes", book::undo);
            }
            check.due(changes - undone, "markCount() after all undo()", book::markCount);
            check.thrown(STATE, "undo() once more", book::undo);
            check.due(changes - undone, "the next id", () -> book.addDogEar(59, 1));
        }
        BookmarkManager executed = Books.with("T1", "T1", "T1", "T1", "T1", "T1", "T1", "T1", "T1");
        for (int left = 7; left >= 0; left--) {
            check.due(left, "undo() of an execute()", executed::undo);
        }
        check.due(1, "currentPage(), where the first of nine had led", executed::currentPage);
        Refusal.refused(check, () -> undone(9, 8), STATE, "undo() of a ninth change", BookmarkManager::undo);
    }

    /** A book with so many changes, of which so many are undone. */
    private static BookmarkManager undone(int changes, int times) {
        BookmarkManager book = Books.settled();
        for (int page = 0; page < changes; page++) {
            book.addDogEar(page, 1);
        }
        for (int time = 0; time < times; time++) {
            book.undo();
        }
        return book;
    }

    @Sentence(of = "Terms, Changes",
        says = "Undo and the snapshot cover the marks, the seats, the chapters, the reader, the id that is given next, and the numbers of votes, of carried motions and of fallen dog ears.")
    static void covered(Check check) {
        covers(check, "addRibbon", at -> at.addRibbon(59, 9));
        covers(check, "addDogEar", at -> at.addDogEar(1, 1));
        covers(check, "removeMark of a ribbon", at -> at.removeMark(0));
        covers(check, "removeMark of a dog ear", at -> at.removeMark(1));
        covers(check, "moveRibbon", at -> at.moveRibbon(2, 6));
        covers(check, "swapSeats", at -> at.swapSeats(0, 2));
        covers(check, "startChapter", at -> at.startChapter(59));
        covers(check, "voteToDissolve that is not carried", at -> at.voteToDissolve(0));
        covers(check, "voteToDissolve that is carried", at -> at.voteToDissolve(1));
        covers(check, "turnPages with a wear", at -> at.turnPages(4, true));
        covers(check, "turnPages with a fall", at -> at.turnPages(1, false));
        covers(check, "execute", at -> Books.run(at, "1;X0;R6:1;S5,2;M2:1;E59:3;V0;B8"));
    }

    private static void covers(Check check, String name, Consumer<BookmarkManager> change) {
        BookmarkManager book = book();
        String before = Books.state(book);
        change.accept(book);
        String after = Books.state(book);
        check.compare(false, name + " changes the state", before.equals(after));
        check.due(3, "undo() of " + name, book::undo);
        check.due(before, "the state after undo() of " + name, () -> Books.state(book));
        check.due(5, "the next id after undo() of " + name, () -> book.addDogEar(40, 1));
        BookmarkManager saved = book();
        int marks = saved.saveSnapshot();
        change.accept(saved);
        check.due(marks, "restoreSnapshot() after " + name, saved::restoreSnapshot);
        check.due(before, "the state after restoreSnapshot() and " + name, () -> Books.state(saved));
        check.due(5, "the next id after restoreSnapshot() and " + name, () -> saved.addDogEar(40, 1));
    }

    @Sentence(of = "Terms, Changes",
        says = "They do not cover the input, the output, the latest rejection and the latest syntax error.")
    static void notCovered(Check check) {
        BookmarkManager undone = Books.with("R5:1", "R6:1");
        spoil(undone);
        check.due(1, "undo()", undone::undo);
        spoilt(check, "after undo()", undone);
        BookmarkManager restored = Books.with("R5:1", "R6:1");
        restored.saveSnapshot();
        spoil(restored);
        check.due(2, "restoreSnapshot()", restored::restoreSnapshot);
        spoilt(check, "after restoreSnapshot()", restored);
        BookmarkManager executed = Books.with("T1", "T2");
        executed.undo();
        check.due(1, "appendInput('T') after undo() of execute(): the input is still empty", () -> executed.appendInput('T'));
        BookmarkManager never = Books.with("R5:1");
        never.saveSnapshot();
        never.undo();
        never.restoreSnapshot();
        check.due("- - -", "the rejection, if there was none", () -> Books.rejection(never));
        check.due("-", "the syntax error, if there was none", () -> Books.syntaxError(never));
        check.due("", "the output, if there was none", () -> Books.wholeOutput(never));
    }

    private static void spoil(BookmarkManager book) {
        Check.answer(() -> Books.run(book, "R5:1;"));
        Check.answer(() -> Books.run(book, "T1;V0"));
        book.writeSeats();
        Books.type(book, "T1");
    }

    private static void spoilt(Check check, String name, BookmarkManager book) {
        check.due("5", "the syntax error " + name, () -> Books.syntaxError(book));
        check.due("10 1 8", "the rejection " + name, () -> Books.rejection(book));
        check.due("5,6,-,-,-", "the output " + name, () -> Books.wholeOutput(book));
        check.due(3, "appendInput('9') " + name, () -> book.appendInput('9'));
        check.due(1, "execute() " + name, book::execute);
        check.due(19, "currentPage() " + name, book::currentPage);
    }

    // ---- Exceptions

    @Sentence(of = "Terms, Exceptions", says = "A call that throws an exception changes nothing, except where this is stated.")
    static void throwingChangesNothing(Check check) {
        changesThatThrow(check);
        questionsThatThrow(check);
        outputAndInputThatThrow(check);
    }

    private static void refused(Check check, Class<? extends RuntimeException> exception, String name,
            Consumer<BookmarkManager> call) {
        Refusal.refused(check, SentencesOfChanges::book, exception, name, call);
    }

    private static void changesThatThrow(Check check) {
        refused(check, NO_SUCH, "addRibbon(60, 1)", at -> at.addRibbon(60, 1));
        refused(check, BAD, "addRibbon(1, 10)", at -> at.addRibbon(1, 10));
        refused(check, NO_SUCH, "addDogEar(-1, 1)", at -> at.addDogEar(-1, 1));
        refused(check, BAD, "addDogEar(1, 0)", at -> at.addDogEar(1, 0));
        refused(check, NO_SUCH, "removeMark(3)", at -> at.removeMark(3));
        refused(check, NO_SUCH, "moveRibbon(3, 1)", at -> at.moveRibbon(3, 1));
        refused(check, NO_SUCH, "moveRibbon(0, 60)", at -> at.moveRibbon(0, 60));
        refused(check, NO_SUCH, "swapSeats(0, 3)", at -> at.swapSeats(0, 3));
        refused(check, NO_SUCH, "startChapter(60)", at -> at.startChapter(60));
        refused(check, NO_SUCH, "voteToDissolve(2)", at -> at.voteToDissolve(2));
        refused(check, BAD, "turnPages(21, true)", at -> at.turnPages(21, true));
        Refusal.refused(check, () -> undone(3, 3), STATE, "undo()", BookmarkManager::undo);
        Refusal.refused(check, () -> Books.with("R5:1", "C9"), STATE, "restoreSnapshot()", BookmarkManager::restoreSnapshot);
    }

    private static void questionsThatThrow(Check check) {
        refused(check, NO_SUCH, "isRibbon(3)", at -> at.isRibbon(3));
        refused(check, NO_SUCH, "pageOf(3)", at -> at.pageOf(3));
        refused(check, NO_SUCH, "weightOf(3)", at -> at.weightOf(3));
        refused(check, NO_SUCH, "wearOf(3)", at -> at.wearOf(3));
        refused(check, NONE, "seatOf(1)", at -> at.seatOf(1));
        refused(check, NONE, "ribbonIn(2)", at -> at.ribbonIn(2));
        refused(check, NO_SUCH, "isHeld(60)", at -> at.isHeld(60));
        refused(check, NONE, "markOn(59)", at -> at.markOn(59));
        refused(check, NONE, "nextMark(51)", at -> at.nextMark(51));
        refused(check, NO_SUCH, "previousMark(-1)", at -> at.previousMark(-1));
        refused(check, NO_SUCH, "nearestMark(60)", at -> at.nearestMark(60));
        refused(check, NO_SUCH, "chapterOf(60)", at -> at.chapterOf(60));
        refused(check, NO_SUCH, "firstPage(2)", at -> at.firstPage(2));
        refused(check, NO_SUCH, "lastPage(2)", at -> at.lastPage(2));
        refused(check, NO_SUCH, "heldPages(2)", at -> at.heldPages(2));
        refused(check, NO_SUCH, "heldPagesByMarks(2)", at -> at.heldPagesByMarks(2));
        refused(check, NO_SUCH, "chapterWeight(2)", at -> at.chapterWeight(2));
        refused(check, NO_SUCH, "weightInFavour(2)", at -> at.weightInFavour(2));
        refused(check, NO_SUCH, "weightAgainst(2)", at -> at.weightAgainst(2));
        refused(check, NO_SUCH, "weightAgainstByTotal(2)", at -> at.weightAgainstByTotal(2));
        refused(check, NO_SUCH, "wouldDissolve(2)", at -> at.wouldDissolve(2));
        refused(check, BAD, "earsAtRisk(0, true)", at -> at.earsAtRisk(0, true));
        refused(check, NONE, "markByPage(4)", at -> at.markByPage(4));
        refused(check, NONE, "markByWeight(4)", at -> at.markByWeight(4));
        refused(check, NO_SUCH, "heldShare(2)", at -> at.heldShare(2));
        Refusal.refused(check, () -> Books.settled("C9"), NONE, "pagesToNextMark()", BookmarkManager::pagesToNextMark);
        Refusal.refused(check, () -> Books.settled("C9"), ArithmeticException.class, "meanWeight()", BookmarkManager::meanWeight);
    }

    private static void outputAndInputThatThrow(Check check) {
        refused(check, NO_SUCH, "writeChapter(2)", at -> at.writeChapter(2));
        refused(check, NO_SUCH, "outputAt(10)", at -> at.outputAt(10));
        refused(check, BAD, "appendInput((char) 127)", at -> at.appendInput((char) 127));
        Refusal.refused(check, () -> Books.with("R5:1"), NONE, "syntaxErrorOffset()", BookmarkManager::syntaxErrorOffset);
        Refusal.refused(check, () -> Books.with("R5:1"), NONE, "rejectionReason()", BookmarkManager::rejectionReason);
        Refusal.refused(check, () -> Books.with("R5:1"), NONE, "rejectionDetail()", BookmarkManager::rejectionDetail);
        Refusal.refused(check, () -> Books.with("R5:1"), NONE, "causeReason()", BookmarkManager::causeReason);
        Refusal.failed(check, () -> Books.with("R5:1", "E7:1;T8"), BAD, "- - -", "11", "X0;E9:1;B8;Q");
        Refusal.failed(check, () -> Books.with("R5:1", "E7:1;T8"), STATE, "- - -", "-", "X0;E9:1;C3;V1;B8;X0");
        Refusal.failed(check, () -> Books.with("R5:1", "E7:1;T8"), REJECTED, "10 5 9", "-", "X0;E9:1;C3;V1;B8;B1");
    }

    @Sentence(of = "Terms, Exceptions", says = "If several exceptions of a method apply, the one that is listed first is thrown.")
    static void firstException(Check check) {
        BookmarkManager full = Books.with("R0:1;R1:1;R2:1;R3:1;R4:1;E5:1;E6:1;E7:1;E8:1;E9:1;E10:1", "E11:1");
        check.thrown(NO_SUCH, "addRibbon(60, 0) with 12 marks", () -> full.addRibbon(60, 0));
        check.thrown(NO_SUCH, "addRibbon(-1, 1) with 12 marks", () -> full.addRibbon(-1, 1));
        check.thrown(BAD, "addRibbon(0, 0) with 12 marks", () -> full.addRibbon(0, 0));
        check.thrown(NO_SUCH, "addDogEar(60, 10) with 12 marks", () -> full.addDogEar(60, 10));
        check.thrown(NO_SUCH, "addDogEar(60, 1) with 12 marks", () -> full.addDogEar(60, 1));
        check.thrown(BAD, "addDogEar(0, 10) with 12 marks", () -> full.addDogEar(0, 10));
        check.thrown(NO_SUCH, "moveRibbon(5, 60) of a dog ear", () -> full.moveRibbon(5, 60));
        check.thrown(NO_SUCH, "moveRibbon(12, 5) to a held page", () -> full.moveRibbon(12, 5));
        check.thrown(NO_SUCH, "swapSeats(5, 12) of a dog ear", () -> full.swapSeats(5, 12));
        check.thrown(NO_SUCH, "swapSeats(12, 5) of a dog ear", () -> full.swapSeats(12, 5));
        check.thrown(NO_SUCH, "swapSeats(12, 12)", () -> full.swapSeats(12, 12));
        check.thrown(NO_SUCH, "voteToDissolve(1) with the only chapter", () -> full.voteToDissolve(1));
        check.thrown(BAD, "turnPages(60, true) over the end", () -> full.turnPages(60, true));
        check.thrown(BAD, "turnPages(21, false) over the start", () -> full.turnPages(21, false));
        check.due("- - -", "none of these is a rejection", () -> Books.rejection(full));
        BookmarkManager chapters = Books.with("C1;C2;C3;C4;C5;C6;C7");
        check.thrown(NO_SUCH, "startChapter(60) with 8 chapters", () -> chapters.startChapter(60));
        BookmarkManager empty = new BookmarkManager();
        check.thrown(NO_SUCH, "seatOf(0) without marks", () -> empty.seatOf(0));
        check.thrown(NO_SUCH, "ribbonIn(5) without marks", () -> empty.ribbonIn(5));
        check.thrown(NO_SUCH, "markOn(60) without marks", () -> empty.markOn(60));
        check.thrown(NO_SUCH, "nextMark(60) without marks", () -> empty.nextMark(60));
        check.thrown(NO_SUCH, "previousMark(-1) without marks", () -> empty.previousMark(-1));
        check.thrown(NO_SUCH, "nearestMark(60) without marks", () -> empty.nearestMark(60));
        Books.type(empty, "V0;".repeat(20));
        check.thrown(BAD, "appendInput((char) 31) to 60 characters", () -> empty.appendInput((char) 31));
        check.thrown(BAD, "execute() of a rejected command and a syntax error", empty::execute);
        check.thrown(BAD, "execute() of a page that isn't there and a syntax error", () -> Books.run(empty, "C60;V0;"));
    }
}
