import java.util.NoSuchElementException;

/** Promises 13 to 18: the calls on pages. */
public final class PagesTest {
    private static final Check CHECK = new Check("PagesTest");
    private static final Class<IndexOutOfBoundsException> NO_SUCH = IndexOutOfBoundsException.class;
    private static final Class<NoSuchElementException> NONE = NoSuchElementException.class;

    private PagesTest() {
    }

    public static void main(String[] args) {
        marksOnPages();
        neighbours();
        twelveMarks();
        afterARemoval();
        nearest();
        chapters();
        noSuchPages();
        CHECK.end();
    }

    /** Promises 13 and 14. */
    private static void marksOnPages() {
        BookmarkManager book = Books.with("R59:1;E0:1;R20:1");
        CHECK.due(true, "isHeld(0)", () -> book.isHeld(0));
        CHECK.due(true, "isHeld(20)", () -> book.isHeld(20));
        CHECK.due(true, "isHeld(59)", () -> book.isHeld(59));
        CHECK.due(false, "isHeld(1)", () -> book.isHeld(1));
        CHECK.due(1, "markOn(0)", () -> book.markOn(0));
        CHECK.due(2, "markOn(20)", () -> book.markOn(20));
        CHECK.due(0, "markOn(59)", () -> book.markOn(59));
        CHECK.thrown(NONE, "markOn(19)", () -> book.markOn(19));
    }

    /** Promises 15 and 16. */
    private static void neighbours() {
        BookmarkManager book = Books.with("R40:1;E10:1;R20:1");
        CHECK.due(1, "nextMark(0)", () -> book.nextMark(0));
        CHECK.due(1, "nextMark(10)", () -> book.nextMark(10));
        CHECK.due(2, "nextMark(11)", () -> book.nextMark(11));
        CHECK.due(0, "nextMark(40)", () -> book.nextMark(40));
        CHECK.thrown(NONE, "nextMark(41)", () -> book.nextMark(41));
        CHECK.due(0, "previousMark(59)", () -> book.previousMark(59));
        CHECK.due(0, "previousMark(40)", () -> book.previousMark(40));
        CHECK.due(2, "previousMark(39)", () -> book.previousMark(39));
        CHECK.due(1, "previousMark(10)", () -> book.previousMark(10));
        CHECK.thrown(NONE, "previousMark(9)", () -> book.previousMark(9));
    }

    private static void twelveMarks() {
        BookmarkManager book = Books.with("E0:1;E1:1;E2:1;E3:1;E4:1;E5:1;E6:1;E7:1;E8:1;E9:1", "E10:1;R11:1");
        CHECK.due(11, "nextMark(11)", () -> book.nextMark(11));
        CHECK.thrown(NONE, "nextMark(12)", () -> book.nextMark(12));
        CHECK.due(11, "previousMark(59)", () -> book.previousMark(59));
        CHECK.due(11, "nearestMark(59)", () -> book.nearestMark(59));
        CHECK.thrown(NONE, "markOn(12)", () -> book.markOn(12));
        CHECK.thrown(NONE, "ribbonIn(1)", () -> book.ribbonIn(1));
        CHECK.thrown(NO_SUCH, "pageOf(12)", () -> book.pageOf(12));
        CHECK.due(11, "markByWeight(0)", () -> book.markByWeight(0));
        CHECK.due(10, "markByWeight(11)", () -> book.markByWeight(11));
    }

    /** What is removed is found by no call. */
    private static void afterARemoval() {
        BookmarkManager book = Books.with("R30:5;E40:9;R50:9", "X1;X2");
        CHECK.thrown(NONE, "nextMark(31)", () -> book.nextMark(31));
        CHECK.thrown(NONE, "markOn(50)", () -> book.markOn(50));
        CHECK.due(false, "isHeld(40)", () -> book.isHeld(40));
        CHECK.due(0, "nearestMark(50)", () -> book.nearestMark(50));
        CHECK.due(0, "previousMark(59)", () -> book.previousMark(59));
        CHECK.due(0, "markByWeight(0)", () -> book.markByWeight(0));
        CHECK.thrown(NONE, "markByWeight(1)", () -> book.markByWeight(1));
        CHECK.thrown(NONE, "ribbonIn(1)", () -> book.ribbonIn(1));
        CHECK.thrown(NONE, "pagesToNextMark() behind it", () -> Books.run(book, "T20;T20") + book.pagesToNextMark());
    }

    /** Promise 17. */
    private static void nearest() {
        BookmarkManager book = Books.with("R40:1;E10:1;R20:1");
        CHECK.due(1, "nearestMark(0)", () -> book.nearestMark(0));
        CHECK.due(1, "nearestMark(14)", () -> book.nearestMark(14));
        CHECK.due(1, "nearestMark(15): the lower page of two", () -> book.nearestMark(15));
        CHECK.due(2, "nearestMark(16)", () -> book.nearestMark(16));
        CHECK.due(2, "nearestMark(20)", () -> book.nearestMark(20));
        CHECK.due(2, "nearestMark(30)", () -> book.nearestMark(30));
        CHECK.due(0, "nearestMark(31)", () -> book.nearestMark(31));
        CHECK.due(0, "nearestMark(59)", () -> book.nearestMark(59));
        CHECK.thrown(NONE, "nearestMark(5) without marks", () -> new BookmarkManager().nearestMark(5));
    }

    /** Promise 18. */
    private static void chapters() {
        BookmarkManager book = Books.with("C30", "C10");
        CHECK.due(0, "chapterOf(0)", () -> book.chapterOf(0));
        CHECK.due(0, "chapterOf(9)", () -> book.chapterOf(9));
        CHECK.due(1, "chapterOf(10)", () -> book.chapterOf(10));
        CHECK.due(1, "chapterOf(29)", () -> book.chapterOf(29));
        CHECK.due(2, "chapterOf(30)", () -> book.chapterOf(30));
        CHECK.due(2, "chapterOf(59)", () -> book.chapterOf(59));
    }

    private static void noSuchPages() {
        BookmarkManager book = Books.with("R59:1;E0:1");
        for (int page : new int[] {-1, 60, Integer.MAX_VALUE, Integer.MIN_VALUE}) {
            CHECK.thrown(NO_SUCH, "isHeld(" + page + ")", () -> book.isHeld(page));
            CHECK.thrown(NO_SUCH, "markOn(" + page + ")", () -> book.markOn(page));
            CHECK.thrown(NO_SUCH, "nextMark(" + page + ")", () -> book.nextMark(page));
            CHECK.thrown(NO_SUCH, "previousMark(" + page + ")", () -> book.previousMark(page));
            CHECK.thrown(NO_SUCH, "nearestMark(" + page + ")", () -> book.nearestMark(page));
            CHECK.thrown(NO_SUCH, "chapterOf(" + page + ")", () -> book.chapterOf(page));
        }
        BookmarkManager empty = new BookmarkManager();
        CHECK.thrown(NO_SUCH, "nearestMark(60): the page comes first", () -> empty.nearestMark(60));
        CHECK.thrown(NO_SUCH, "nextMark(60): the page comes first", () -> empty.nextMark(60));
        CHECK.thrown(NO_SUCH, "previousMark(-1): the page comes first", () -> empty.previousMark(-1));
        CHECK.thrown(NO_SUCH, "markOn(60): the page comes first", () -> empty.markOn(60));
    }
}
