import java.lang.reflect.Field;
import java.util.NoSuchElementException;

/** Promises 35 to 49: orders and totals. */
final class SentencesOfTotals {
    private static final String POSITION = "`position`: the position, from 0";
    private static final String NO_POSITION = "Throws `NoSuchElementException` if there is no such position";

    private static final Class<IndexOutOfBoundsException> NO_SUCH = IndexOutOfBoundsException.class;
    private static final Class<NoSuchElementException> NONE = NoSuchElementException.class;
    private static final int MIN = Integer.MIN_VALUE;
    private static final int MAX = Integer.MAX_VALUE;

    private SentencesOfTotals() {
    }

    /** Marks 0 to 5: dog ears on the pages 30, 10 and 0, ribbons on the pages 50, 40 and 20. */
    private static BookmarkManager sixMarks() {
        return Books.settled("E30:5;E10:5;E0:1", "R50:5;R40:5;R20:9");
    }

    private static BookmarkManager twelveMarks() {
        return Books.settled("E59:1;E58:2;E57:3;E56:4;E55:5;E54:6;E53:7", "R4:9;R3:8;R2:7;R1:6;R0:5");
    }

    private static String order(BookmarkManager book, Refusal.IntCall call) {
        StringBuilder text = new StringBuilder();
        for (int position = 0; position < book.markCount(); position++) {
            text.append(position == 0 ? "" : " ").append(call.answer(book, position));
        }
        return text.toString();
    }

    private static void positions(Check check, String name, Refusal.IntCall call) {
        Refusal.taken(check, SentencesOfTotals::sixMarks, name, call, 0, 5);
        Refusal.refused(check, SentencesOfTotals::sixMarks, NONE, name, call, -1, 6, MIN, MAX);
        Refusal.taken(check, SentencesOfTotals::twelveMarks, name, call, 11);
        Refusal.refused(check, SentencesOfTotals::twelveMarks, NONE, name, call, 12);
        Refusal.refused(check, BookmarkManager::new, NONE, name, call, 0, -1);
        Refusal.refused(check, () -> Books.settled("R1:1;E2:1", "X0"), NONE, name, call, 1);
    }

    // ---- Promises 35 and 36

    @Sentence(of = "Promise 35", says = "Returns a mark in the order of pages.")
    static void markByPage(Check check) {
        check.due("2 1 5 0 4 3", "the order of pages", () -> order(sixMarks(), BookmarkManager::markByPage));
        check.due("11 10 9 8 7 6 5 4 3 2 1 0", "the order of 12 marks", () -> order(twelveMarks(), BookmarkManager::markByPage));
        BookmarkManager moved = sixMarks();
        moved.moveRibbon(3, 1);
        check.due("2 3 1 5 0 4", "the order after a move", () -> order(moved, BookmarkManager::markByPage));
        moved.moveRibbon(3, 59);
        check.due("2 1 5 0 4 3", "the order after a move", () -> order(moved, BookmarkManager::markByPage));
    }

    @Sentence(of = "Promise 35", says = POSITION)
    static void positionByPage(Check check) {
        check.due(2, "markByPage(0), on the lowest held page", () -> sixMarks().markByPage(0));
        check.due(3, "markByPage(5), on the greatest held page", () -> sixMarks().markByPage(5));
        check.due(0, "markByPage(0) of the only mark", () -> Books.with("R59:1").markByPage(0));
        Refusal.refused(check, SentencesOfTotals::sixMarks, NONE, "markByPage", BookmarkManager::markByPage, -1);
    }

    @Sentence(of = "Promise 35", says = NO_POSITION)
    static void noPositionByPage(Check check) {
        positions(check, "markByPage", BookmarkManager::markByPage);
    }

    @Sentence(of = "Promise 36", says = "Returns a mark in the order of weights, the greatest weight first.")
    static void markByWeight(Check check) {
        BookmarkManager nine = Books.with("E9:1;E8:7;E7:3;E6:6;E5:4;E4:5", "E3:8;E2:2;E1:9");
        check.due("8 6 1 3 5 4 2 7 0", "the order of nine weights", () -> order(nine, BookmarkManager::markByWeight));
        check.due(5, "markByWeight(0), the greatest weight", () -> sixMarks().markByWeight(0));
        check.due(2, "markByWeight(5), the lowest weight", () -> sixMarks().markByWeight(5));
        check.due("1 0", "a dog ear of weight 9 ahead of a ribbon of weight 8",
            () -> order(Books.with("R0:8;E59:9"), BookmarkManager::markByWeight));
    }

    @Sentence(of = "Promise 36", says = "Of marks with the same weight, ribbons come first, then marks on lower pages.")
    static void sameWeight(Check check) {
        check.due("5 4 3 1 0 2", "the order of six marks", () -> order(sixMarks(), BookmarkManager::markByWeight));
        check.due("1 0", "a ribbon behind a dog ear", () -> order(Books.with("E0:5;R59:5"), BookmarkManager::markByWeight));
        check.due("1 0", "two ribbons", () -> order(Books.with("R1:5;R0:5"), BookmarkManager::markByWeight));
        check.due("1 0", "two dog ears", () -> order(Books.with("E59:5;E58:5"), BookmarkManager::markByWeight));
        check.due("7 8 9 6 10 5 11 4 3 2 1 0", "the order of 12 marks", () -> order(twelveMarks(), BookmarkManager::markByWeight));
    }

    @Sentence(of = "Promise 36", says = POSITION)
    static void positionByWeight(Check check) {
        check.due(5, "markByWeight(0)", () -> sixMarks().markByWeight(0));
        check.due(2, "markByWeight(5)", () -> sixMarks().markByWeight(5));
        check.due(0, "markByWeight(0) of the only mark", () -> Books.with("E59:1").markByWeight(0));
        Refusal.refused(check, SentencesOfTotals::sixMarks, NONE, "markByWeight", BookmarkManager::markByWeight, -1);
    }

    @Sentence(of = "Promise 36", says = NO_POSITION)
    static void noPositionByWeight(Check check) {
        positions(check, "markByWeight", BookmarkManager::markByWeight);
    }

    // ---- Promises 37 and 38

    private static void span(Check check, String name, Refusal.IntCall call) {
        check.due(0, name + " without marks", () -> call.answer(new BookmarkManager(), 0));
        check.due(0, name + " with one mark, on page 59", () -> call.answer(Books.with("R59:1"), 0));
        check.due(0, name + " with one mark, on page 0", () -> call.answer(Books.with("E0:1"), 0));
        check.due(1, name + " with two marks side by side", () -> call.answer(Books.with("E31:1;R30:1"), 0));
        check.due(59, name + " with marks on the first and the last page", () -> call.answer(Books.with("E59:1;R0:1"), 0));
        check.due(50, name + " with six marks", () -> call.answer(sixMarks(), 0));
        check.due(59, name + " with 12 marks", () -> call.answer(twelveMarks(), 0));
        check.due(0, name + " after all marks but one are removed", () -> call.answer(Books.with("E9:1;R50:1", "X1"), 0));
    }

    @Sentence(of = "Promise 37",
        says = "Returns the sum of the differences of the pages of all marks that follow each other in the order of pages.")
    static void spanOfMarks(Check check) {
        span(check, "span()", (at, none) -> at.span());
    }

    @Sentence(of = "Promise 37", says = "Returns the sum, 0 with fewer than two marks.")
    static void spanOfFewMarks(Check check) {
        check.due(0, "span() without marks", () -> new BookmarkManager().span());
        check.due(0, "span() with one mark", () -> Books.with("E30:1").span());
        check.due(2, "span() with two marks", () -> Books.with("E30:1;E28:1").span());
        check.due(0, "span() after the second mark is removed", () -> Books.with("E30:1;E28:1", "X1").span());
    }

    @Sentence(of = "Promise 38", says = "Returns the same sum in a second way: the greatest held page minus the lowest one.")
    static void spanByEnds(Check check) {
        span(check, "spanByEnds()", (at, none) -> at.spanByEnds());
    }

    // ---- Promises 39 to 43

    @Sentence(of = "Promise 39", says = "Returns the weight of all ribbons.")
    static void ribbonWeight(Check check) {
        check.due(0, "ribbonWeight() without marks", () -> new BookmarkManager().ribbonWeight());
        check.due(0, "ribbonWeight() with dog ears only", () -> Books.with("E0:9;E59:9").ribbonWeight());
        check.due(19, "ribbonWeight() with six marks", () -> sixMarks().ribbonWeight());
        check.due(45, "ribbonWeight(), the greatest", () -> Books.with("R0:9;R1:9;R2:9;R3:9;R59:9;E4:9").ribbonWeight());
        check.due(9, "ribbonWeight() after one is removed", () -> Books.with("R0:1;R1:9", "X0").ribbonWeight());
    }

    @Sentence(of = "Promise 40", says = "Returns the weight of all dog ears.")
    static void dogEarWeight(Check check) {
        check.due(0, "dogEarWeight() without marks", () -> new BookmarkManager().dogEarWeight());
        check.due(0, "dogEarWeight() with ribbons only", () -> Books.with("R0:9;R59:9").dogEarWeight());
        check.due(11, "dogEarWeight() with six marks", () -> sixMarks().dogEarWeight());
        BookmarkManager full = Books.with("E0:9;E1:9;E2:9;E3:9;E4:9;E5:9", "E6:9;E7:9;E8:9;E9:9;E10:9;E11:9");
        check.due(108, "dogEarWeight(), the greatest", full::dogEarWeight);
        check.due(9, "dogEarWeight() after one has fallen off", () -> Books.with("E1:1;E59:9", "T1;B1;T1;B1;T1").dogEarWeight());
    }

    @Sentence(of = "Promise 41", says = "Returns the number of marks.")
    static void markCount(Check check) {
        BookmarkManager book = new BookmarkManager();
        check.due(0, "markCount() of a new book", book::markCount);
        for (int mark = 0; mark < 12; mark++) {
            if (mark < 5) {
                book.addRibbon(mark, 1);
            } else {
                book.addDogEar(mark, 1);
            }
            check.due(mark + 1, "markCount()", book::markCount);
        }
        Check.answer(() -> book.addDogEar(59, 1));
        check.due(12, "markCount() after a rejected call", book::markCount);
        book.removeMark(0);
        book.removeMark(11);
        check.due(10, "markCount() after two removals", book::markCount);
    }

    @Sentence(of = "Promise 42", says = "Returns the number of ribbons.")
    static void ribbonCount(Check check) {
        BookmarkManager book = Books.with("E59:1");
        check.due(0, "ribbonCount() with a dog ear only", book::ribbonCount);
        for (int ribbon = 0; ribbon < 5; ribbon++) {
            book.addRibbon(ribbon, 1);
            check.due(ribbon + 1, "ribbonCount()", book::ribbonCount);
        }
        Check.answer(() -> book.addRibbon(58, 1));
        check.due(5, "ribbonCount() after a rejected call", book::ribbonCount);
        book.removeMark(0);
        check.due(5, "ribbonCount() after a dog ear is removed", book::ribbonCount);
        book.removeMark(1);
        check.due(4, "ribbonCount() after a ribbon is removed", book::ribbonCount);
    }

    @Sentence(of = "Promise 43", says = "Returns the number of chapters.")
    static void chapterCount(Check check) {
        BookmarkManager book = Books.with("R0:1");
        check.due(1, "chapterCount() at first", book::chapterCount);
        for (int page = 1; page < 8; page++) {
            book.startChapter(page);
            check.due(page + 1, "chapterCount()", book::chapterCount);
        }
        Check.answer(() -> book.startChapter(8));
        check.due(8, "chapterCount() after a rejected call", book::chapterCount);
        for (int chapters = 7; chapters > 0; chapters--) {
            book.voteToDissolve(1);
            check.due(chapters, "chapterCount() after a vote", book::chapterCount);
        }
    }

    // ---- Promises 44 to 46

    @Sentence(of = "Promise 44", says = "Returns the number of votes that have been held so far.")
    static void votesHeld(Check check) {
        BookmarkManager book = Books.with("R0:1");
        check.due(0, "votesHeld() at first", book::votesHeld);
        Check.answer(() -> book.voteToDissolve(0));
        Check.answer(() -> book.voteToDissolve(1));
        check.due(0, "votesHeld() after refused calls", book::votesHeld);
        Books.run(book, "C30;C40");
        check.due(false, "voteToDissolve(0)", () -> book.voteToDissolve(0));
        check.due(1, "votesHeld() after a motion that is not carried", book::votesHeld);
        check.due(true, "voteToDissolve(1)", () -> book.voteToDissolve(1));
        check.due(2, "votesHeld() after a motion that is carried", book::votesHeld);
        Books.run(book, "V0;V1");
        check.due(4, "votesHeld() after two commands", book::votesHeld);
        Check.answer(() -> Books.run(book, "C30;V0;V1;V0"));
        check.due(4, "votesHeld() after rejected commands", book::votesHeld);
        book.undo();
        check.due(2, "votesHeld() after undo()", book::votesHeld);
    }

    @Sentence(of = "Promise 45", says = "Returns the number of motions that have been carried so far.")
    static void motionsCarried(Check check) {
        BookmarkManager book = Books.with("R0:1;E59:1;C30;C40");
        check.due(0, "motionsCarried() at first", book::motionsCarried);
        book.voteToDissolve(2);
        check.due(0, "motionsCarried() after 1 to 1", book::motionsCarried);
        book.removeMark(1);
        book.voteToDissolve(2);
        check.due(1, "motionsCarried() after 1 to 0", book::motionsCarried);
        book.voteToDissolve(1);
        check.due(2, "motionsCarried() after a second one", book::motionsCarried);
        Check.answer(() -> book.voteToDissolve(0));
        check.due(2, "motionsCarried() after a rejected call", book::motionsCarried);
        book.undo();
        check.due(1, "motionsCarried() after undo()", book::motionsCarried);
    }

    @Sentence(of = "Promise 46", says = "Returns the number of dog ears that have fallen off so far.")
    static void fallenEars(Check check) {
        BookmarkManager book = Books.with("E1:1;E2:1;E4:1;R59:9");
        check.due(0, "fallenEars() at first", book::fallenEars);
        Books.run(book, "T3;B3");
        check.due(0, "fallenEars() with a wear of 2", book::fallenEars);
        book.turnPages(2, true);
        check.due(2, "fallenEars() after two have fallen off", book::fallenEars);
        Books.run(book, "T2;B2;T2;B2;T2");
        check.due(3, "fallenEars() after a third one", book::fallenEars);
        Books.run(book, "E5:1;X4;E6:1;C30;V0");
        check.due(3, "fallenEars() after one is removed and one voted out", book::fallenEars);
        check.due(1, "markCount()", book::markCount);
    }

    // ---- Promises 47 to 49

    @Sentence(of = "Promise 47",
        says = "Returns the mean weight of all marks: the sum divided by their number, both converted to double.")
    static void meanWeight(Check check) {
        check.due(1.0, "meanWeight() of one mark of the weight 1", () -> Books.with("E0:1").meanWeight());
        check.due(1.5, "meanWeight() of 1 and 2", () -> Books.with("E0:1;R1:2").meanWeight());
        check.due(5.0 / 3.0, "meanWeight() of 1, 2 and 2", () -> Books.with("E0:1;R1:2;R2:2").meanWeight());
        check.due(30.0 / 6.0, "meanWeight() of six marks", () -> sixMarks().meanWeight());
        check.due(63.0 / 12.0, "meanWeight() of 12 marks", () -> twelveMarks().meanWeight());
        BookmarkManager full = Books.with("E0:9;E1:9;E2:9;E3:9;E4:9;E5:9", "E6:9;E7:9;E8:9;E9:9;E10:9;E11:9");
        check.due(9.0, "meanWeight(), the greatest", full::meanWeight);
        full.removeMark(0);
        full.addDogEar(0, 1);
        check.due(100.0 / 12.0, "meanWeight() of 11 marks of weight 9 and one of 1", full::meanWeight);
    }

    @Sentence(of = "Promise 47", says = "Throws `ArithmeticException` if there are no marks")
    static void meanOfNoMarks(Check check) {
        Refusal.refused(check, BookmarkManager::new, ArithmeticException.class, "meanWeight()", BookmarkManager::meanWeight);
        Refusal.refused(check, () -> Books.settled("E0:1;R5:1", "X0;X1"), ArithmeticException.class, "meanWeight() after removals",
            BookmarkManager::meanWeight);
        check.due(3.0, "meanWeight() with one mark", () -> Books.with("E0:1;R5:3", "X0").meanWeight());
    }

    @Sentence(of = "Promise 48",
        says = "Returns the share of held pages among all pages of a chapter, both numbers converted to float.")
    static void heldShare(Check check) {
        BookmarkManager book = Books.with("C10;C57;C59", "E0:1;R9:1;E57:1;R59:1");
        check.due(2.0f / 10.0f, "heldShare(0)", () -> book.heldShare(0));
        check.due(0.0f, "heldShare(1), without marks", () -> book.heldShare(1));
        check.due(1.0f / 2.0f, "heldShare(2)", () -> book.heldShare(2));
        check.due(1.0f, "heldShare(3), of one page that is held", () -> book.heldShare(3));
        check.due(0.0f, "heldShare(0) of a new book", () -> new BookmarkManager().heldShare(0));
        check.due(12.0f / 60.0f, "heldShare(0) with 12 marks", () -> twelveMarks().heldShare(0));
        check.due(1.0f / 60.0f, "heldShare(0) with one mark", () -> Books.with("E30:1").heldShare(0));
        check.due(1.0f / 3.0f, "heldShare(1) of three pages", () -> Books.with("E59:1;C57").heldShare(1));
    }

    @Sentence(of = "Promise 48", says = "Throws `IndexOutOfBoundsException` if there is no such chapter")
    static void shareOfNone(Check check) {
        Refusal.taken(check, () -> Books.settled("R5:1", "C30"), "heldShare", BookmarkManager::heldShare, 0, 1);
        Refusal.refused(check, () -> Books.settled("R5:1", "C30"), NO_SUCH, "heldShare", BookmarkManager::heldShare, -1, 2, MIN, MAX);
        Refusal.taken(check, () -> Books.with("C1;C2;C3;C4;C5;C6;C7"), "heldShare", BookmarkManager::heldShare, 7);
        Refusal.refused(check, () -> Books.with("C1;C2;C3;C4;C5;C6;C7"), NO_SUCH, "heldShare", BookmarkManager::heldShare, 8);
    }

    @Sentence(of = "Promise 49",
        says = "Checks the data: both ways to count held pages and both ways to compute the weight against a motion agree for every chapter, both ways to compute the span agree, no two marks are on one page, and no two ribbons have one seat.")
    static void isConsistent(Check check) {
        BookmarkManager book = new BookmarkManager();
        check.due(true, "isConsistent() of a new book", book::isConsistent);
        String[] inputs = {"R0:9;E59:1;R30:4;E2:1;R58:2;C1;C59", "C2;C3;C4;C5;C6", "S0,2;M2:57;M0:1", "V7;V0;V1", "T20;B20;T20;B20;T20",
            "R10:1;R11:1;E12:1;E13:1;E14:1;E15:1;E16:1;E17:1", "X0;X2;X4"};
        for (String input : inputs) {
            Check.answer(() -> Books.run(book, input));
            check.due(true, "isConsistent() after " + input, book::isConsistent);
        }
        book.saveSnapshot();
        book.undo();
        check.due(true, "isConsistent() after undo()", book::isConsistent);
        book.restoreSnapshot();
        check.due(true, "isConsistent() after restoreSnapshot()", book::isConsistent);
    }

    @Sentence(of = "Promise 49", says = "Returns whether all this is true.")
    static void consistentOrNot(Check check) {
        check.due(true, "isConsistent() with 12 marks", () -> twelveMarks().isConsistent());
        check.due(true, "isConsistent() with all seats free", () -> Books.with("E0:1;E59:1").isConsistent());
        check.due(true, "isConsistent() with 8 chapters", () -> Books.with("C53;C54;C55;C56;C57;C58;C59", "R59:1;E58:1").isConsistent());
        check.due(true, "isConsistent() with one mark", () -> Books.with("R59:1").isConsistent());
        String marks = "R10:1;R20:1;E30:1;E40:1;R50:1";
        check.due(true, "isConsistent() of the book that is spoilt then", () -> Books.with(marks).isConsistent());
        check.due(false, "isConsistent() with two marks on one page", () -> spoilt(Books.with(marks), "pages").isConsistent());
        check.due(false, "isConsistent() with two marks on one page, in another chapter",
            () -> spoilt(Books.with(marks, "C5"), "pages").isConsistent());
        check.due(false, "isConsistent() with two ribbons in one seat", () -> spoilt(Books.with(marks), "seats").isConsistent());
    }

    /**
     * No call leads a book to data that are not consistent. So this gives the second mark the page or the seat of the
     * first one, by the name of the row inside the book.
     */
    private static BookmarkManager spoilt(BookmarkManager book, String name) {
        try {
            Field data = BookmarkManager.class.getDeclaredField("book");
            data.setAccessible(true);
            Field row = data.getType().getDeclaredField(name);
            row.setAccessible(true);
            int[] values = (int[]) row.get(data.get(book));
            values[1] = values[0];
            return book;
        } catch (ReflectiveOperationException renamed) {
            throw new IllegalStateException(renamed);
        }
    }
}
