import java.util.NoSuchElementException;

/** Promises 13 to 18: the calls on pages. */
final class SentencesOfPages {
    private static final String NO_PAGE = "Throws `IndexOutOfBoundsException` if there is no such page";

    private static final Class<IndexOutOfBoundsException> NO_SUCH = IndexOutOfBoundsException.class;
    private static final Class<NoSuchElementException> NONE = NoSuchElementException.class;
    private static final int[] NO_PAGES = {-1, 60, Integer.MIN_VALUE, Integer.MAX_VALUE};

    private SentencesOfPages() {
    }

    /** Marks on the first and on the last page. */
    private static BookmarkManager ends() {
        return Books.settled("E0:1;R59:2", "C30");
    }

    /** Mark 0 is a dog ear on page 40, mark 1 a ribbon on page 20, mark 2 a dog ear on page 10. */
    private static BookmarkManager middle() {
        return Books.settled("E40:1;R20:2", "E10:1");
    }

    private static BookmarkManager empty() {
        return Books.settled("E40:1;R20:2", "X0;X1");
    }

    /** Twelve marks on the pages 48 to 59: mark 0 is on page 59. */
    private static BookmarkManager twelveMarks() {
        return Books.settled("E59:1;E58:1;E57:1;E56:1;E55:1;E54:1;E53:1", "R52:1;R51:1;R50:1;R49:1;R48:1");
    }

    // ---- Promises 13 and 14

    @Sentence(of = "Promise 13", says = "Tells whether a page is held by a mark.")
    static void isHeld(Check check) {
        BookmarkManager book = ends();
        for (int page = 0; page < 60; page++) {
            int index = page;
            check.due(page == 0 || page == 59, "isHeld(" + page + ")", () -> book.isHeld(index));
        }
        book.removeMark(0);
        check.due(false, "isHeld(0) after its mark is removed", () -> book.isHeld(0));
        check.due(false, "isHeld(20) of the empty book", () -> empty().isHeld(20));
        check.due(true, "isHeld(48) with 12 marks", () -> twelveMarks().isHeld(48));
        check.due(false, "isHeld(47) with 12 marks", () -> twelveMarks().isHeld(47));
        check.due(true, "isHeld(59) with 12 marks", () -> twelveMarks().isHeld(59));
    }

    @Sentence(of = "Promise 13", says = NO_PAGE)
    static void isNoPageHeld(Check check) {
        Refusal.taken(check, SentencesOfPages::ends, "isHeld", BookmarkManager::isHeld, 0, 59);
        Refusal.refused(check, SentencesOfPages::ends, NO_SUCH, "isHeld", BookmarkManager::isHeld, NO_PAGES);
    }

    @Sentence(of = "Promise 14", says = "Returns the mark on a page.")
    static void markOn(Check check) {
        check.due(0, "markOn(0)", () -> ends().markOn(0));
        check.due(1, "markOn(59)", () -> ends().markOn(59));
        check.due(2, "markOn(10)", () -> middle().markOn(10));
        check.due(0, "markOn(59) with 12 marks", () -> twelveMarks().markOn(59));
        check.due(11, "markOn(48) with 12 marks", () -> twelveMarks().markOn(48));
    }

    @Sentence(of = "Promise 14", says = NO_PAGE)
    static void markOnNoPage(Check check) {
        Refusal.taken(check, SentencesOfPages::ends, "markOn", BookmarkManager::markOn, 0, 59);
        Refusal.refused(check, SentencesOfPages::ends, NO_SUCH, "markOn", BookmarkManager::markOn, NO_PAGES);
    }

    @Sentence(of = "Promise 14", says = "Throws `NoSuchElementException` if the page is not held")
    static void markOnFreePage(Check check) {
        Refusal.refused(check, SentencesOfPages::ends, NONE, "markOn", BookmarkManager::markOn, 1, 58);
        Refusal.refused(check, SentencesOfPages::middle, NONE, "markOn", BookmarkManager::markOn, 0, 19, 21, 59);
        Refusal.refused(check, SentencesOfPages::empty, NONE, "markOn", BookmarkManager::markOn, 20, 40);
    }

    // ---- Promises 15 and 16

    @Sentence(of = "Promise 15",
        says = "Returns the mark on the lowest held page that is greater than or equal to a page.")
    static void nextMark(Check check) {
        BookmarkManager book = middle();
        check.due(2, "nextMark(0)", () -> book.nextMark(0));
        check.due(2, "nextMark(10), the page itself", () -> book.nextMark(10));
        check.due(1, "nextMark(11)", () -> book.nextMark(11));
        check.due(1, "nextMark(20), the page itself", () -> book.nextMark(20));
        check.due(0, "nextMark(21)", () -> book.nextMark(21));
        check.due(0, "nextMark(40), the greatest held page", () -> book.nextMark(40));
        check.due(0, "nextMark(0) on page 0", () -> ends().nextMark(0));
        check.due(1, "nextMark(1)", () -> ends().nextMark(1));
        check.due(1, "nextMark(59) on page 59", () -> ends().nextMark(59));
        check.due(11, "nextMark(0) with 12 marks", () -> twelveMarks().nextMark(0));
        check.due(0, "nextMark(59) with 12 marks", () -> twelveMarks().nextMark(59));
    }

    @Sentence(of = "Promise 15", says = NO_PAGE)
    static void nextMarkOfNoPage(Check check) {
        Refusal.taken(check, SentencesOfPages::ends, "nextMark", BookmarkManager::nextMark, 0, 59);
        Refusal.refused(check, SentencesOfPages::ends, NO_SUCH, "nextMark", BookmarkManager::nextMark, NO_PAGES);
        Refusal.refused(check, SentencesOfPages::empty, NO_SUCH, "nextMark", BookmarkManager::nextMark, -1, 60);
    }

    @Sentence(of = "Promise 15", says = "Throws `NoSuchElementException` if there is none")
    static void noNextMark(Check check) {
        Refusal.taken(check, SentencesOfPages::middle, "nextMark", BookmarkManager::nextMark, 40);
        Refusal.refused(check, SentencesOfPages::middle, NONE, "nextMark", BookmarkManager::nextMark, 41, 59);
        Refusal.refused(check, SentencesOfPages::empty, NONE, "nextMark", BookmarkManager::nextMark, 0, 59);
    }

    @Sentence(of = "Promise 16",
        says = "Returns the mark on the greatest held page that is less than or equal to a page.")
    static void previousMark(Check check) {
        BookmarkManager book = middle();
        check.due(0, "previousMark(59)", () -> book.previousMark(59));
        check.due(0, "previousMark(40), the page itself", () -> book.previousMark(40));
        check.due(1, "previousMark(39)", () -> book.previousMark(39));
        check.due(1, "previousMark(20), the page itself", () -> book.previousMark(20));
        check.due(2, "previousMark(19)", () -> book.previousMark(19));
        check.due(2, "previousMark(10), the lowest held page", () -> book.previousMark(10));
        check.due(0, "previousMark(0) on page 0", () -> ends().previousMark(0));
        check.due(0, "previousMark(58)", () -> ends().previousMark(58));
        check.due(1, "previousMark(59) on page 59", () -> ends().previousMark(59));
        check.due(0, "previousMark(59) with 12 marks", () -> twelveMarks().previousMark(59));
        check.due(11, "previousMark(48) with 12 marks", () -> twelveMarks().previousMark(48));
    }

    @Sentence(of = "Promise 16", says = NO_PAGE)
    static void previousMarkOfNoPage(Check check) {
        Refusal.taken(check, SentencesOfPages::ends, "previousMark", BookmarkManager::previousMark, 0, 59);
        Refusal.refused(check, SentencesOfPages::ends, NO_SUCH, "previousMark", BookmarkManager::previousMark, NO_PAGES);
        Refusal.refused(check, SentencesOfPages::empty, NO_SUCH, "previousMark", BookmarkManager::previousMark, -1, 60);
    }

    @Sentence(of = "Promise 16", says = "Throws `NoSuchElementException` if there is none")
    static void noPreviousMark(Check check) {
        Refusal.taken(check, SentencesOfPages::middle, "previousMark", BookmarkManager::previousMark, 10);
        Refusal.refused(check, SentencesOfPages::middle, NONE, "previousMark", BookmarkManager::previousMark, 9, 0);
        Refusal.refused(check, SentencesOfPages::empty, NONE, "previousMark", BookmarkManager::previousMark, 0, 59);
    }

    // ---- Promise 17

    @Sentence(of = "Promise 17", says = "Returns the mark whose page has the smallest difference from a page.")
    static void nearestMark(Check check) {
        BookmarkManager book = middle();
        check.due(2, "nearestMark(0), with marks behind it only", () -> book.nearestMark(0));
        check.due(2, "nearestMark(10), the page itself", () -> book.nearestMark(10));
        check.due(2, "nearestMark(14)", () -> book.nearestMark(14));
        check.due(1, "nearestMark(16)", () -> book.nearestMark(16));
        check.due(1, "nearestMark(29)", () -> book.nearestMark(29));
        check.due(0, "nearestMark(31)", () -> book.nearestMark(31));
        check.due(0, "nearestMark(59), with marks ahead of it only", () -> book.nearestMark(59));
        check.due(0, "nearestMark(29) of the pages 0 and 59", () -> ends().nearestMark(29));
        check.due(1, "nearestMark(30) of the pages 0 and 59", () -> ends().nearestMark(30));
        check.due(1, "nearestMark(59) of the pages 0 and 20", () -> Books.with("R0:1;E20:1").nearestMark(59));
        check.due(1, "nearestMark(0) of the pages 59 and 20", () -> Books.with("R59:1;E20:1").nearestMark(0));
        check.due(0, "nearestMark(59) of the only mark, on page 0", () -> Books.with("R0:1").nearestMark(59));
        check.due(0, "nearestMark(0) of the only mark, on page 59", () -> Books.with("R59:1").nearestMark(0));
    }

    @Sentence(of = "Promise 17", says = "Of two such marks, the one on the lower page is returned.")
    static void lowerOfTwoNearest(Check check) {
        check.due(2, "nearestMark(15) of the pages 10 and 20", () -> middle().nearestMark(15));
        check.due(1, "nearestMark(30) of the pages 20 and 40", () -> middle().nearestMark(30));
        check.due(1, "nearestMark(1) of the pages 0 and 2", () -> Books.with("R2:9;E0:1").nearestMark(1));
        check.due(0, "nearestMark(1) of the pages 0 and 2", () -> Books.with("E0:1;R2:9").nearestMark(1));
        check.due(0, "nearestMark(58) of the pages 57 and 59", () -> Books.with("E57:1;R59:9").nearestMark(58));
    }

    @Sentence(of = "Promise 17", says = NO_PAGE)
    static void nearestMarkOfNoPage(Check check) {
        Refusal.taken(check, SentencesOfPages::middle, "nearestMark", BookmarkManager::nearestMark, 0, 59);
        Refusal.refused(check, SentencesOfPages::ends, NO_SUCH, "nearestMark", BookmarkManager::nearestMark, NO_PAGES);
        Refusal.refused(check, SentencesOfPages::empty, NO_SUCH, "nearestMark", BookmarkManager::nearestMark, -1, 60);
    }

    @Sentence(of = "Promise 17", says = "Throws `NoSuchElementException` if there are no marks")
    static void nearestOfNoMarks(Check check) {
        Refusal.refused(check, SentencesOfPages::empty, NONE, "nearestMark", BookmarkManager::nearestMark, 0, 20, 59);
        Refusal.refused(check, BookmarkManager::new, NONE, "nearestMark", BookmarkManager::nearestMark, 0, 59);
        Refusal.taken(check, () -> Books.with("E30:1"), "nearestMark", BookmarkManager::nearestMark, 0, 59);
    }

    // ---- Promise 18

    @Sentence(of = "Promise 18", says = "Returns the chapter of a page.")
    static void chapterOf(Check check) {
        BookmarkManager book = Books.with("C1;C2;C3;C4;C30;C31;C59");
        int[] pages = {0, 1, 2, 3, 4, 29, 30, 31, 58, 59};
        int[] chapters = {0, 1, 2, 3, 4, 4, 5, 6, 6, 7};
        for (int index = 0; index < pages.length; index++) {
            int page = pages[index];
            check.due(chapters[index], "chapterOf(" + page + ")", () -> book.chapterOf(page));
        }
        check.due(0, "chapterOf(59) with the only chapter", () -> new BookmarkManager().chapterOf(59));
    }

    @Sentence(of = "Promise 18", says = NO_PAGE)
    static void chapterOfNoPage(Check check) {
        Refusal.taken(check, SentencesOfPages::ends, "chapterOf", BookmarkManager::chapterOf, 0, 59);
        Refusal.refused(check, SentencesOfPages::ends, NO_SUCH, "chapterOf", BookmarkManager::chapterOf, NO_PAGES);
    }
}
