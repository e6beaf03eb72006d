import java.util.NoSuchElementException;

/** Promises 35 to 49: orders and totals. */
public final class TotalsTest {
    private static final Check CHECK = new Check("TotalsTest");
    private static final Class<IndexOutOfBoundsException> NO_SUCH = IndexOutOfBoundsException.class;
    private static final Class<NoSuchElementException> NONE = NoSuchElementException.class;

    private TotalsTest() {
    }

    public static void main(String[] args) {
        orders();
        spans();
        weightsAndCounts();
        mean();
        share();
        consistent();
        CHECK.end();
    }

    /** Promises 35 and 36. */
    private static void orders() {
        BookmarkManager book = Books.with("E30:5;R50:5;R40:5;E10:5;R20:9;E0:1");
        int[] byPage = {5, 3, 4, 0, 2, 1};
        int[] byWeight = {4, 2, 1, 3, 0, 5};
        for (int position = 0; position < byPage.length; position++) {
            int index = position;
            CHECK.due(byPage[index], "markByPage(" + index + ")", () -> book.markByPage(index));
            CHECK.due(byWeight[index], "markByWeight(" + index + ")", () -> book.markByWeight(index));
        }
        for (int position : new int[] {-1, 6, 12, Integer.MAX_VALUE, Integer.MIN_VALUE}) {
            CHECK.thrown(NONE, "markByPage(" + position + ")", () -> book.markByPage(position));
            CHECK.thrown(NONE, "markByWeight(" + position + ")", () -> book.markByWeight(position));
        }
        CHECK.thrown(NONE, "markByPage(0) without marks", () -> new BookmarkManager().markByPage(0));
        CHECK.thrown(NONE, "markByWeight(0) without marks", () -> new BookmarkManager().markByWeight(0));
    }

    /** Promises 37 and 38. */
    private static void spans() {
        BookmarkManager book = new BookmarkManager();
        spanIs(book, 0);
        Books.run(book, "R30:1");
        spanIs(book, 0);
        Books.run(book, "E10:1");
        spanIs(book, 20);
        Books.run(book, "E20:1");
        spanIs(book, 20);
        Books.run(book, "E0:1;R59:1");
        spanIs(book, 59);
    }

    private static void spanIs(BookmarkManager book, int want) {
        CHECK.due(want, "span()", book::span);
        CHECK.due(want, "spanByEnds()", book::spanByEnds);
    }

    /** Promises 39 to 46. */
    private static void weightsAndCounts() {
        BookmarkManager book = new BookmarkManager();
        CHECK.due("0 0 0 0 1 0 0 0", "totals of a new book", () -> totals(book));
        Books.run(book, "R30:7;E10:2;R40:9;E3:1");
        CHECK.due("16 3 4 2 1 0 0 0", "totals with marks", () -> totals(book));
        Books.run(book, "C20;C50");
        CHECK.due("16 3 4 2 3 0 0 0", "totals with chapters", () -> totals(book));
        Books.run(book, "V1;V2");
        CHECK.due("16 3 4 2 2 2 1 0", "totals after two votes", () -> totals(book));
        Books.run(book, "T3;B1;T1;B1;T1");
        CHECK.due("16 2 3 2 2 2 1 1", "totals after a fall", () -> totals(book));
        book.voteToDissolve(0);
        CHECK.due("16 0 2 2 1 3 2 1", "dog ears removed by a vote have not fallen", () -> totals(book));
    }

    private static String totals(BookmarkManager book) {
        return book.ribbonWeight() + " " + book.dogEarWeight() + " " + book.markCount() + " " + book.ribbonCount() + " "
            + book.chapterCount() + " " + book.votesHeld() + " " + book.motionsCarried() + " " + book.fallenEars();
    }

    /** Promise 47. */
    private static void mean() {
        BookmarkManager book = new BookmarkManager();
        CHECK.thrown(ArithmeticException.class, "meanWeight() without marks", book::meanWeight);
        Books.run(book, "R30:7");
        CHECK.due(7.0, "meanWeight() of one mark", book::meanWeight);
        Books.run(book, "E10:2;E11:1");
        CHECK.due(10.0 / 3.0, "meanWeight() of three marks", book::meanWeight);
        book.removeMark(0);
        CHECK.due(1.5, "meanWeight() of two marks", book::meanWeight);
    }

    /** Promise 48. */
    private static void share() {
        BookmarkManager book = Books.with("C57", "E56:1;R0:1;E57:1");
        CHECK.due(2.0f / 57.0f, "heldShare(0)", () -> book.heldShare(0));
        CHECK.due(1.0f / 3.0f, "heldShare(1)", () -> book.heldShare(1));
        Books.run(book, "C58");
        CHECK.due(1.0f, "heldShare(1) of one page", () -> book.heldShare(1));
        CHECK.due(0.0f, "heldShare(2)", () -> book.heldShare(2));
        CHECK.thrown(NO_SUCH, "heldShare(3)", () -> book.heldShare(3));
        CHECK.thrown(NO_SUCH, "heldShare(-1)", () -> book.heldShare(-1));
    }

    /** Promise 49: no run of calls may lead to data that are not consistent. */
    private static void consistent() {
        BookmarkManager book = new BookmarkManager();
        CHECK.due(true, "isConsistent() of a new book", book::isConsistent);
        String[] inputs = {"R30:7;E10:2;R40:9;E3:1;R0:2;E59:9", "C10;C20;C11;C59", "S0,2;M0:5", "V0;V1", "T20;B20;T19",
            "R1:1;R2:1;E58:4", "X2;E40:3", "V0"};
        for (String input : inputs) {
            Books.run(book, input);
            CHECK.due(true, "isConsistent() after " + input, book::isConsistent);
        }
        BookmarkManager full = Books.with("R0:1;R9:1;R18:1;R27:1;R36:1;E59:1;E58:1;E57:1;E56:1", "E1:1;E2:1;E3:1",
            "C1;C2;C3;C20;C30;C56;C59");
        CHECK.due(true, "isConsistent() with 12 marks and 8 chapters", full::isConsistent);
    }
}
