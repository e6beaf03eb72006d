import java.util.NoSuchElementException;

/** Promises 1 to 12: a new object, and the calls on marks. */
public final class MarksTest {
    private static final Check CHECK = new Check("MarksTest");
    private static final Class<IndexOutOfBoundsException> NO_SUCH = IndexOutOfBoundsException.class;
    private static final Class<IllegalArgumentException> BAD = IllegalArgumentException.class;
    private static final Class<UnsupportedOperationException> REJECTED = UnsupportedOperationException.class;
    private static final Class<NoSuchElementException> NONE = NoSuchElementException.class;

    private MarksTest() {
    }

    public static void main(String[] args) {
        aNewObject();
        addRibbon();
        addRibbonWrongly();
        addDogEar();
        addDogEarWrongly();
        removeMark();
        moveRibbon();
        moveRibbonWrongly();
        swapSeats();
        swapSeatsWrongly();
        whatAMarkIs();
        ribbonIn();
        CHECK.end();
    }

    /** Promise 1. */
    private static void aNewObject() {
        BookmarkManager book = new BookmarkManager();
        CHECK.due("| 0 | reader 0 votes 0 0 fallen 0", "a new object", () -> Books.state(book));
        CHECK.due("0-59", "its only chapter", () -> Books.chapterText(book, 0));
        CHECK.due("-,-,-,-,-", "its seats", () -> Books.seatText(book));
        CHECK.due("- - -", "its latest rejection", () -> Books.rejection(book));
        CHECK.due(0, "its undoCount()", book::undoCount);
    }

    /** Promise 2. */
    private static void addRibbon() {
        BookmarkManager book = new BookmarkManager();
        CHECK.due(0, "addRibbon(0, 1)", () -> book.addRibbon(0, 1));
        CHECK.due(1, "addRibbon(59, 9)", () -> book.addRibbon(59, 9));
        CHECK.due(2, "addRibbon(30, 5)", () -> book.addRibbon(30, 5));
        CHECK.due("0,59,30,-,-", "the lowest seats are taken", () -> Books.seatText(book));
        book.removeMark(1);
        CHECK.due(3, "an id is never given again", () -> book.addRibbon(7, 2));
        CHECK.due("0,7,30,-,-", "the lowest free seat is taken", () -> Books.seatText(book));
        CHECK.due(5, "undoCount() counts the returning calls", book::undoCount);
        book.addRibbon(8, 2);
        CHECK.due(5, "the last seat", () -> book.addRibbon(9, 2));
        CHECK.due("0,7,30,8,9", "all seats", () -> Books.seatText(book));
    }

    private static void addRibbonWrongly() {
        BookmarkManager book = Books.with("R4:3");
        CHECK.thrown(NO_SUCH, "addRibbon(-1, 1)", () -> book.addRibbon(-1, 1));
        CHECK.thrown(NO_SUCH, "addRibbon(60, 1)", () -> book.addRibbon(60, 1));
        CHECK.thrown(NO_SUCH, "addRibbon(60, 0): the page comes first", () -> book.addRibbon(60, 0));
        CHECK.thrown(BAD, "addRibbon(0, 0)", () -> book.addRibbon(0, 0));
        CHECK.thrown(BAD, "addRibbon(0, 10)", () -> book.addRibbon(0, 10));
        CHECK.thrown(BAD, "addRibbon(4, 10): the weight ahead of the page's mark", () -> book.addRibbon(4, 10));
        CHECK.due("- - -", "none of these is a rejection", () -> Books.rejection(book));
        CHECK.thrown(REJECTED, "addRibbon(4, 1)", () -> book.addRibbon(4, 1));
        CHECK.due("3 0 -", "PAGE_HELD", () -> Books.rejection(book));
        CHECK.due(1, "a rejected call gives no id", () -> book.addRibbon(5, 1));
        Books.run(book, "R6:1;R7:1;R8:1");
        CHECK.thrown(REJECTED, "addRibbon(4, 1) without a seat", () -> book.addRibbon(4, 1));
        CHECK.due("2 5 -", "NO_FREE_SEAT ahead of PAGE_HELD", () -> Books.rejection(book));
        Books.run(book, "E20:1;E21:1;E22:1;E23:1;E24:1;E25:1;E26:1");
        CHECK.thrown(REJECTED, "addRibbon(4, 1) with 12 marks", () -> book.addRibbon(4, 1));
        CHECK.due("1 12 -", "MARK_LIMIT ahead of NO_FREE_SEAT", () -> Books.rejection(book));
        book.removeMark(0);
        CHECK.due(12, "addRibbon with 11 marks", () -> book.addRibbon(4, 1));
    }

    /** Promise 3. */
    private static void addDogEar() {
        BookmarkManager book = new BookmarkManager();
        CHECK.due(0, "addDogEar(0, 9)", () -> book.addDogEar(0, 9));
        CHECK.due(1, "addDogEar(59, 1)", () -> book.addDogEar(59, 1));
        CHECK.due("-,-,-,-,-", "dog ears take no seats", () -> Books.seatText(book));
        Books.run(book, "R1:1;R2:1;R3:1;R4:1;R5:1");
        CHECK.due(7, "addDogEar without a free seat", () -> book.addDogEar(6, 1));
        Books.run(book, "E7:1;E8:1;E9:1");
        CHECK.due(11, "the 12th mark", () -> book.addDogEar(10, 1));
        CHECK.due(12, "markCount()", book::markCount);
    }

    private static void addDogEarWrongly() {
        BookmarkManager book = Books.with("R4:3");
        CHECK.thrown(NO_SUCH, "addDogEar(-1, 1)", () -> book.addDogEar(-1, 1));
        CHECK.thrown(NO_SUCH, "addDogEar(60, 10)", () -> book.addDogEar(60, 10));
        CHECK.thrown(BAD, "addDogEar(0, 0)", () -> book.addDogEar(0, 0));
        CHECK.thrown(BAD, "addDogEar(4, 10)", () -> book.addDogEar(4, 10));
        CHECK.due("- - -", "none of these is a rejection", () -> Books.rejection(book));
        CHECK.thrown(REJECTED, "addDogEar(4, 1)", () -> book.addDogEar(4, 1));
        CHECK.due("3 0 -", "PAGE_HELD", () -> Books.rejection(book));
        Books.run(book, "E10:1;E11:1;E12:1;E13:1;E14:1;E15:1;E16:1;E17:1;E18:1;E19:1");
        book.addDogEar(20, 1);
        CHECK.thrown(REJECTED, "addDogEar(4, 1) with 12 marks", () -> book.addDogEar(4, 1));
        CHECK.due("1 12 -", "MARK_LIMIT ahead of PAGE_HELD", () -> Books.rejection(book));
        CHECK.due(12, "markCount()", book::markCount);
    }

    /** Promise 4. */
    private static void removeMark() {
        BookmarkManager book = Books.with("R30:2;E20:3;R10:4");
        CHECK.due(30, "removeMark(0)", () -> book.removeMark(0));
        CHECK.due("2r10*4w0s1 1e20*3w0 | 0 | reader 0 votes 0 0 fallen 0", "the others stay", () -> Books.state(book));
        CHECK.due("-,10,-,-,-", "the seat is free", () -> Books.seatText(book));
        CHECK.thrown(NO_SUCH, "removeMark(0) again", () -> book.removeMark(0));
        CHECK.thrown(NO_SUCH, "removeMark(3)", () -> book.removeMark(3));
        CHECK.thrown(NO_SUCH, "removeMark(-1)", () -> book.removeMark(-1));
        CHECK.due(20, "removeMark(1)", () -> book.removeMark(1));
        CHECK.due(0, "a removed dog ear has not fallen", book::fallenEars);
        CHECK.due(10, "removeMark(2)", () -> book.removeMark(2));
        CHECK.due(0, "markCount()", book::markCount);
    }

    /** Promise 5. */
    private static void moveRibbon() {
        BookmarkManager book = Books.with("R30:2;E20:3;R10:4");
        CHECK.due(30, "moveRibbon(0, 0)", () -> book.moveRibbon(0, 0));
        CHECK.due("0r0*2w0s0 2r10*4w0s1 1e20*3w0 | 0 | reader 0 votes 0 0 fallen 0", "moved back", () -> Books.state(book));
        CHECK.due(0, "moveRibbon(0, 59)", () -> book.moveRibbon(0, 59));
        CHECK.due("2r10*4w0s1 1e20*3w0 0r59*2w0s0 | 0 | reader 0 votes 0 0 fallen 0", "moved on", () -> Books.state(book));
        CHECK.due(10, "moveRibbon(2, 11)", () -> book.moveRibbon(2, 11));
        CHECK.due(false, "the old page is free", () -> book.isHeld(10));
    }

    private static void moveRibbonWrongly() {
        BookmarkManager book = Books.with("R30:2;E20:3;R10:4");
        CHECK.thrown(NO_SUCH, "moveRibbon(3, 5)", () -> book.moveRibbon(3, 5));
        CHECK.thrown(NO_SUCH, "moveRibbon(0, 60)", () -> book.moveRibbon(0, 60));
        CHECK.thrown(NO_SUCH, "moveRibbon(0, -1)", () -> book.moveRibbon(0, -1));
        CHECK.thrown(NO_SUCH, "moveRibbon(1, 60): the page ahead of the dog ear", () -> book.moveRibbon(1, 60));
        CHECK.due("- - -", "none of these is a rejection", () -> Books.rejection(book));
        CHECK.thrown(REJECTED, "moveRibbon(0, 20)", () -> book.moveRibbon(0, 20));
        CHECK.due("3 1 -", "PAGE_HELD by another mark", () -> Books.rejection(book));
        CHECK.thrown(REJECTED, "moveRibbon(2, 10)", () -> book.moveRibbon(2, 10));
        CHECK.due("3 2 -", "PAGE_HELD by the ribbon itself", () -> Books.rejection(book));
        CHECK.thrown(REJECTED, "moveRibbon(1, 10)", () -> book.moveRibbon(1, 10));
        CHECK.due("4 1 -", "NOT_A_RIBBON ahead of PAGE_HELD", () -> Books.rejection(book));
        CHECK.due(1, "undoCount()", book::undoCount);
    }

    /** Promise 6. */
    private static void swapSeats() {
        BookmarkManager book = Books.with("R30:2;R20:3;R10:4");
        CHECK.due(2, "swapSeats(0, 2)", () -> book.swapSeats(0, 2));
        CHECK.due("10,20,30,-,-", "the seats", () -> Books.seatText(book));
        CHECK.due(2, "swapSeats(1, 0)", () -> book.swapSeats(1, 0));
        CHECK.due("10,30,20,-,-", "the seats again", () -> Books.seatText(book));
        CHECK.due(30, "the pages stay", () -> book.pageOf(0));
    }

    private static void swapSeatsWrongly() {
        BookmarkManager book = Books.with("R30:2;E20:3;E10:4");
        CHECK.thrown(NO_SUCH, "swapSeats(0, 3)", () -> book.swapSeats(0, 3));
        CHECK.thrown(NO_SUCH, "swapSeats(-1, 0)", () -> book.swapSeats(-1, 0));
        CHECK.thrown(NO_SUCH, "swapSeats(1, 3): the id ahead of the dog ear", () -> book.swapSeats(1, 3));
        CHECK.due("- - -", "none of these is a rejection", () -> Books.rejection(book));
        CHECK.thrown(REJECTED, "swapSeats(2, 1)", () -> book.swapSeats(2, 1));
        CHECK.due("4 2 -", "NOT_A_RIBBON for the first one", () -> Books.rejection(book));
        CHECK.thrown(REJECTED, "swapSeats(0, 1)", () -> book.swapSeats(0, 1));
        CHECK.due("4 1 -", "NOT_A_RIBBON for the second one", () -> Books.rejection(book));
        CHECK.thrown(REJECTED, "swapSeats(2, 0)", () -> book.swapSeats(2, 0));
        CHECK.due("4 2 -", "NOT_A_RIBBON for the first one only", () -> Books.rejection(book));
        CHECK.thrown(REJECTED, "swapSeats(0, 0)", () -> book.swapSeats(0, 0));
        CHECK.due("5 0 -", "SAME_RIBBON", () -> Books.rejection(book));
        CHECK.thrown(REJECTED, "swapSeats(1, 1)", () -> book.swapSeats(1, 1));
        CHECK.due("4 1 -", "NOT_A_RIBBON ahead of SAME_RIBBON", () -> Books.rejection(book));
        CHECK.due(0, "seatOf(0)", () -> book.seatOf(0));
    }

    /** Promises 7 to 11. */
    private static void whatAMarkIs() {
        BookmarkManager book = Books.with("E5:7;R8:3", "T6");
        CHECK.due(false, "isRibbon(0)", () -> book.isRibbon(0));
        CHECK.due(true, "isRibbon(1)", () -> book.isRibbon(1));
        CHECK.due(5, "pageOf(0)", () -> book.pageOf(0));
        CHECK.due(8, "pageOf(1)", () -> book.pageOf(1));
        CHECK.due(7, "weightOf(0)", () -> book.weightOf(0));
        CHECK.due(3, "weightOf(1)", () -> book.weightOf(1));
        CHECK.due(1, "wearOf(0)", () -> book.wearOf(0));
        book.turnPages(3, true);
        CHECK.due(0, "wearOf(1): a ribbon does not wear", () -> book.wearOf(1));
        CHECK.due(0, "seatOf(1)", () -> book.seatOf(1));
        CHECK.thrown(NONE, "seatOf(0)", () -> book.seatOf(0));
        for (int mark : new int[] {-1, 2, Integer.MAX_VALUE, Integer.MIN_VALUE}) {
            CHECK.thrown(NO_SUCH, "isRibbon(" + mark + ")", () -> book.isRibbon(mark));
            CHECK.thrown(NO_SUCH, "pageOf(" + mark + ")", () -> book.pageOf(mark));
            CHECK.thrown(NO_SUCH, "weightOf(" + mark + ")", () -> book.weightOf(mark));
            CHECK.thrown(NO_SUCH, "wearOf(" + mark + ")", () -> book.wearOf(mark));
            CHECK.thrown(NO_SUCH, "seatOf(" + mark + ")", () -> book.seatOf(mark));
        }
        book.removeMark(0);
        CHECK.thrown(NO_SUCH, "isRibbon of a removed mark", () -> book.isRibbon(0));
    }

    /** Promise 12. */
    private static void ribbonIn() {
        BookmarkManager book = Books.with("R1:1;R2:1;R3:1;R4:1;R5:1", "X1");
        CHECK.due(0, "ribbonIn(0)", () -> book.ribbonIn(0));
        CHECK.due(4, "ribbonIn(4)", () -> book.ribbonIn(4));
        CHECK.thrown(NONE, "ribbonIn(1)", () -> book.ribbonIn(1));
        CHECK.thrown(NO_SUCH, "ribbonIn(5)", () -> book.ribbonIn(5));
        CHECK.thrown(NO_SUCH, "ribbonIn(-1)", () -> book.ribbonIn(-1));
        BookmarkManager ears = Books.with("E1:1");
        CHECK.thrown(NONE, "ribbonIn(0) with a dog ear only", () -> ears.ribbonIn(0));
        CHECK.thrown(NO_SUCH, "ribbonIn(-1) with a dog ear only", () -> ears.ribbonIn(-1));
    }
}
