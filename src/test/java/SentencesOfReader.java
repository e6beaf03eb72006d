import java.util.NoSuchElementException;

/** Promises 31 to 34: the reader. */
final class SentencesOfReader {
    private static final String COUNT = "`count`: the number of pages, 1 to 20";
    private static final String NO_COUNT = "Throws `IllegalArgumentException` if count is out of range";

    private static final Class<IllegalArgumentException> BAD = IllegalArgumentException.class;
    private static final Class<NoSuchElementException> NONE = NoSuchElementException.class;
    private static final int[] NO_COUNTS = {0, 21, -1, Integer.MIN_VALUE, Integer.MAX_VALUE};

    private SentencesOfReader() {
    }

    private static BookmarkManager onPage30() {
        return Books.settled("E29:1;E31:1;R32:1", "T20;T10");
    }

    /** The reader is on page 0; dog ears of wear 2 are on the pages 2, 4 and 6, a ribbon is on page 5. */
    private static BookmarkManager wornEars() {
        return Books.settled("E2:1;E4:1;E6:1;R5:1", "T7;B7");
    }

    // ---- Promise 31

    @Sentence(of = "Promise 31", says = "Turns pages.")
    static void turnPages(Check check) {
        BookmarkManager book = onPage30();
        book.turnPages(1, true);
        check.due("0e29*1w1 1e31*1w1 2r32*1w0s0 | 0 | reader 31 votes 0 0 fallen 0", "a page forward", () -> Books.state(book));
        book.turnPages(1, false);
        check.due("0e29*1w1 1e31*1w1 2r32*1w0s0 | 0 | reader 30 votes 0 0 fallen 0", "a page backward", () -> Books.state(book));
        book.turnPages(20, false);
        check.due("0e29*1w2 1e31*1w1 2r32*1w0s0 | 0 | reader 10 votes 0 0 fallen 0", "twenty pages backward",
            () -> Books.state(book));
        book.turnPages(20, true);
        check.due("1e31*1w1 2r32*1w0s0 | 0 | reader 30 votes 0 0 fallen 1", "twenty pages forward", () -> Books.state(book));
    }

    @Sentence(of = "Promise 31", says = COUNT)
    static void countOfPages(Check check) {
        for (int count = 1; count <= 20; count++) {
            int pages = count;
            BookmarkManager forward = onPage30();
            forward.turnPages(pages, true);
            check.due(30 + pages, "currentPage() after turnPages(" + pages + ", true)", forward::currentPage);
            BookmarkManager back = onPage30();
            back.turnPages(pages, false);
            check.due(30 - pages, "currentPage() after turnPages(" + pages + ", false)", back::currentPage);
        }
        Refusal.refused(check, SentencesOfReader::onPage30, BAD, "turnPages", (at, count) -> at.turnPages(count, true), 0, 21);
        Refusal.refused(check, SentencesOfReader::onPage30, BAD, "turnPages back", (at, count) -> at.turnPages(count, false), 0, 21);
    }

    @Sentence(of = "Promise 31", says = "Returns the number of dog ears that fall off.")
    static void numberOfFalls(Check check) {
        check.due(0, "turnPages(1, true), ahead of the first", () -> wornEars().turnPages(1, true));
        check.due(1, "turnPages(2, true), to the first", () -> wornEars().turnPages(2, true));
        check.due(2, "turnPages(5, true), to a ribbon", () -> wornEars().turnPages(5, true));
        check.due(3, "turnPages(6, true), to the last", () -> wornEars().turnPages(6, true));
        check.due(0, "turnPages(20, true) without marks", () -> new BookmarkManager().turnPages(20, true));
        check.due(0, "turnPages(2, true) to a new dog ear", () -> Books.with("E2:1").turnPages(2, true));
        check.due(0, "turnPages(2, true) to a dog ear of wear 1", () -> Books.with("E2:1", "T2;B1;B1").turnPages(2, true));
        BookmarkManager twelve = Books.with("E1:1;E2:1;E3:1;E4:1;E5:1;E6:1", "E7:1;E8:1;E9:1;E10:1;E11:1;E12:1", "T13;B13");
        check.due(12, "turnPages(12, true) with 12 worn dog ears", () -> twelve.turnPages(12, true));
    }

    @Sentence(of = "Promise 31", says = NO_COUNT)
    static void turnNoCount(Check check) {
        Refusal.taken(check, SentencesOfReader::onPage30, "turnPages", (at, count) -> at.turnPages(count, true), 1, 20);
        Refusal.taken(check, SentencesOfReader::onPage30, "turnPages back", (at, count) -> at.turnPages(count, false), 1, 20);
        Refusal.refused(check, SentencesOfReader::onPage30, BAD, "turnPages", (at, count) -> at.turnPages(count, true), NO_COUNTS);
        Refusal.refused(check, SentencesOfReader::onPage30, BAD, "turnPages back", (at, count) -> at.turnPages(count, false), NO_COUNTS);
        Refusal.refused(check, BookmarkManager::new, BAD, "turnPages(0, false) on page 0", at -> at.turnPages(0, false));
        Refusal.refused(check, () -> Books.settled("T20;T20;T19"), BAD, "turnPages(21, true) on page 59", at -> at.turnPages(21, true));
    }

    @Sentence(of = "Promise 31", says = "Throws `UnsupportedOperationException` if the call is rejected with the reason BOOK_END")
    static void turnRejected(Check check) {
        check.due(0, "turnPages(9, true) on page 50", () -> Books.with("T20;T20;T10").turnPages(9, true));
        Refusal.rejected(check, () -> Books.settled("E55:1", "T20;T20;T10"), "9 50 -", "turnPages(10, true) on page 50",
            at -> at.turnPages(10, true));
        Refusal.rejected(check, () -> Books.settled("E55:1", "T20;T20;T10"), "9 50 -", "turnPages(20, true) on page 50",
            at -> at.turnPages(20, true));
        check.due(0, "turnPages(9, false) on page 9", () -> Books.with("T9").turnPages(9, false));
        Refusal.rejected(check, () -> Books.settled("E5:1", "T9"), "9 9 -", "turnPages(10, false) on page 9",
            at -> at.turnPages(10, false));
        Refusal.rejected(check, SentencesOfReader::wornEars, "9 0 -", "turnPages(1, false) on page 0", at -> at.turnPages(1, false));
        Refusal.rejected(check, () -> Books.settled("E59:1", "T20;T20;T19"), "9 59 -", "turnPages(1, true) on page 59",
            at -> at.turnPages(1, true));
    }

    // ---- Promises 32 and 33

    @Sentence(of = "Promise 32", says = "Returns the current page of the reader.")
    static void currentPage(Check check) {
        BookmarkManager book = new BookmarkManager();
        check.due(0, "currentPage() at first", book::currentPage);
        Books.run(book, "T20;T20;T19");
        check.due(59, "currentPage(), the last one", book::currentPage);
        Check.answer(() -> book.turnPages(1, true));
        check.due(59, "currentPage() after a rejected turn", book::currentPage);
        Books.run(book, "B20;B20;B19");
        check.due(0, "currentPage(), the first one", book::currentPage);
        Check.answer(() -> book.turnPages(1, false));
        check.due(0, "currentPage() after a rejected turn", book::currentPage);
        book.undo();
        check.due(59, "currentPage() after undo()", book::currentPage);
    }

    @Sentence(of = "Promise 33",
        says = "Returns how many pages the reader must turn forward to come to the next held page after the current page.")
    static void pagesToNextMark(Check check) {
        check.due(1, "pagesToNextMark() with a mark on the next page", () -> Books.with("R1:1;R2:1").pagesToNextMark());
        check.due(2, "pagesToNextMark() on a held page", () -> Books.with("R0:1;E2:1").pagesToNextMark());
        check.due(59, "pagesToNextMark() from page 0 to page 59", () -> Books.with("E59:1").pagesToNextMark());
        check.due(1, "pagesToNextMark() on page 58", () -> Books.with("E59:1;R58:1", "T20;T20;T18").pagesToNextMark());
        check.due(19, "pagesToNextMark() past the marks behind", () -> Books.with("R5:1;E39:1", "T20").pagesToNextMark());
    }

    @Sentence(of = "Promise 33", says = "Throws `NoSuchElementException` if no later page is held")
    static void noLaterPageHeld(Check check) {
        Refusal.refused(check, BookmarkManager::new, NONE, "pagesToNextMark()", BookmarkManager::pagesToNextMark);
        Refusal.refused(check, () -> Books.settled("R0:1"), NONE, "pagesToNextMark() on page 0, which is held",
            BookmarkManager::pagesToNextMark);
        Refusal.refused(check, () -> Books.settled("R20:1;E19:1", "T20"), NONE, "pagesToNextMark() on the greatest held page",
            BookmarkManager::pagesToNextMark);
        Refusal.refused(check, () -> Books.settled("R59:1", "T20;T20;T19"), NONE, "pagesToNextMark() on page 59",
            BookmarkManager::pagesToNextMark);
        check.due(1, "pagesToNextMark() a page ahead of it", () -> Books.with("R20:1;E18:1", "T19").pagesToNextMark());
    }

    // ---- Promise 34

    @Sentence(of = "Promise 34", says = "Returns how many dog ears would fall off if pages were turned now.")
    static void earsAtRisk(Check check) {
        int[] counts = {1, 2, 3, 4, 5, 6, 7, 20};
        int[] ears = {0, 1, 1, 2, 2, 3, 3, 3};
        for (int index = 0; index < counts.length; index++) {
            int count = counts[index];
            check.due(ears[index], "earsAtRisk(" + count + ", true)", () -> wornEars().earsAtRisk(count, true));
            check.due(ears[index], "turnPages(" + count + ", true)", () -> wornEars().turnPages(count, true));
        }
        BookmarkManager behind = Books.with("E2:1;E4:1;E6:1;E7:1", "T7;B1;T1");
        check.due("0e2*1w1 1e4*1w1 2e6*1w2 3e7*1w2 | 0 | reader 7 votes 0 0 fallen 0", "the state", () -> Books.state(behind));
        check.due(1, "earsAtRisk(1, false), without the page that is left", () -> behind.earsAtRisk(1, false));
        check.due(1, "earsAtRisk(7, false), without those of wear 1", () -> behind.earsAtRisk(7, false));
        check.due(0, "earsAtRisk(7, true)", () -> behind.earsAtRisk(7, true));
        BookmarkManager asked = wornEars();
        String before = Books.state(asked);
        asked.earsAtRisk(20, true);
        check.due(before, "the state after earsAtRisk(20, true)", () -> Books.state(asked));
        check.due(0, "earsAtRisk(20, true) without marks", () -> new BookmarkManager().earsAtRisk(20, true));
        BookmarkManager twelve = Books.with("E1:1;E2:1;E3:1;E4:1;E5:1;E6:1", "E7:1;E8:1;E9:1;E10:1;E11:1;E12:1", "T13;B13");
        check.due(12, "earsAtRisk(12, true) with 12 worn dog ears", () -> twelve.earsAtRisk(12, true));
        check.due(11, "earsAtRisk(11, true) with 12 worn dog ears", () -> twelve.earsAtRisk(11, true));
    }

    @Sentence(of = "Promise 34", says = "It does not matter that the book has an end.")
    static void earsAtRiskOverTheEnd(Check check) {
        BookmarkManager end = Books.with("E59:1;E58:1", "T20;T20;T19;B2");
        check.due("1e58*1w2 0e59*1w1 | 0 | reader 57 votes 0 0 fallen 0", "the state", () -> Books.state(end));
        check.due(1, "earsAtRisk(20, true), far over the end", () -> end.earsAtRisk(20, true));
        Books.run(end, "T2;B2");
        check.due("0e59*1w2 | 0 | reader 57 votes 0 0 fallen 1", "the state", () -> Books.state(end));
        check.due(0, "earsAtRisk(1, true), ahead of the last page", () -> end.earsAtRisk(1, true));
        check.due(1, "earsAtRisk(2, true) to the last page", () -> end.earsAtRisk(2, true));
        check.due(1, "earsAtRisk(3, true), a page over the end", () -> end.earsAtRisk(3, true));
        check.due(1, "earsAtRisk(20, true), far over the end", () -> end.earsAtRisk(20, true));
        check.due("- - -", "the rejection", () -> Books.rejection(end));
        BookmarkManager start = Books.with("E0:1", "T1;B1;T1;B1;T2");
        check.due(1, "earsAtRisk(2, false) to page 0", () -> start.earsAtRisk(2, false));
        check.due(1, "earsAtRisk(3, false), a page over the start", () -> start.earsAtRisk(3, false));
        check.due(1, "earsAtRisk(20, false), far over the start", () -> start.earsAtRisk(20, false));
        check.due(0, "earsAtRisk(1, false), ahead of it", () -> start.earsAtRisk(1, false));
    }

    @Sentence(of = "Promise 34", says = COUNT)
    static void countAtRisk(Check check) {
        BookmarkManager book = Books.with("E20:1", "T20;B1;T1;B20");
        check.due(0, "earsAtRisk(19, true)", () -> book.earsAtRisk(19, true));
        check.due(1, "earsAtRisk(20, true)", () -> book.earsAtRisk(20, true));
        BookmarkManager next = Books.with("E1:1", "T1;B1;T1;B1");
        check.due(1, "earsAtRisk(1, true)", () -> next.earsAtRisk(1, true));
        Refusal.refused(check, SentencesOfReader::wornEars, BAD, "earsAtRisk", (at, count) -> at.earsAtRisk(count, true), 0, 21);
    }

    @Sentence(of = "Promise 34", says = NO_COUNT)
    static void riskOfNoCount(Check check) {
        Refusal.taken(check, SentencesOfReader::wornEars, "earsAtRisk", (at, count) -> at.earsAtRisk(count, true), 1, 20);
        Refusal.taken(check, SentencesOfReader::wornEars, "earsAtRisk back", (at, count) -> at.earsAtRisk(count, false), 1, 20);
        Refusal.refused(check, SentencesOfReader::wornEars, BAD, "earsAtRisk", (at, count) -> at.earsAtRisk(count, true), NO_COUNTS);
        Refusal.refused(check, SentencesOfReader::wornEars, BAD, "earsAtRisk back", (at, count) -> at.earsAtRisk(count, false),
            NO_COUNTS);
    }
}
