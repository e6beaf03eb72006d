import java.util.NoSuchElementException;

/** Promises 1 to 12: a new object, and the calls on marks. */
final class SentencesOfMarks {
    private static final String NO_PAGE = "Throws `IndexOutOfBoundsException` if there is no such page";
    private static final String NO_MARK = "Throws `IndexOutOfBoundsException` if there is no mark with this id";
    private static final String NO_WEIGHT = "Throws `IllegalArgumentException` if weight is out of range";
    private static final String WEIGHT = "`weight`: the weight, 1 to 9";

    private static final Class<IndexOutOfBoundsException> NO_SUCH = IndexOutOfBoundsException.class;
    private static final Class<IllegalArgumentException> BAD = IllegalArgumentException.class;
    private static final Class<NoSuchElementException> NONE = NoSuchElementException.class;
    private static final int MIN = Integer.MIN_VALUE;
    private static final int MAX = Integer.MAX_VALUE;
    /** On the book of marks(): an id of a removed mark, the next id, and ids far off. */
    private static final int[] NO_IDS = {0, 6, -1, 7, MIN, MAX};
    private static final int[] NO_PAGES = {-1, 60, MIN, MAX};
    private static final int[] NO_WEIGHTS = {0, 10, -1, MIN, MAX};

    private SentencesOfMarks() {
    }

    /**
     * Mark 0 was removed, mark 1 is a ribbon on page 20 in seat 0, mark 2 a dog ear of wear 1 on page 5, marks 3 and 4
     * are ribbons on the pages 40 and 10 in the seats 1 and 2, and mark 5 is a dog ear on page 50.
     */
    private static BookmarkManager marks() {
        return Books.settled("E1:1;R20:4;E5:2;R40:9", "X0;R10:3;T9", "E50:1");
    }

    private static BookmarkManager fiveRibbons() {
        return Books.settled("R1:1;R2:1;R3:1;R4:1", "R5:1");
    }

    /** Marks 0 to 11: five ribbons on the pages 1 to 5, and seven dog ears on the pages 6 to 12. */
    private static BookmarkManager twelveMarks() {
        return Books.settled("R1:1;R2:1;R3:1;R4:1;R5:1", "E6:1;E7:1;E8:1;E9:1;E10:1;E11:1;E12:1");
    }

    // ---- Promise 1

    @Sentence(of = "Promise 1", says = "Creates a book without marks.")
    static void newBook(Check check) {
        BookmarkManager book = new BookmarkManager();
        check.due("| 0 | reader 0 votes 0 0 fallen 0", "the state", () -> Books.state(book));
        check.due(0, "ribbonCount()", book::ribbonCount);
        check.due(0, "undoCount()", book::undoCount);
        check.due("- - -", "the rejection", () -> Books.rejection(book));
        check.due("-", "the syntax error", () -> Books.syntaxError(book));
        check.due("", "the output", () -> Books.wholeOutput(book));
        Refusal.refused(check, BookmarkManager::new, NO_SUCH, "pageOf", BookmarkManager::pageOf, 0, -1);
        for (int seat = 0; seat < 5; seat++) {
            int index = seat;
            check.thrown(NONE, "ribbonIn(" + seat + ")", () -> book.ribbonIn(index));
        }
        for (int page = 0; page < 60; page++) {
            int index = page;
            check.due(false, "isHeld(" + page + ")", () -> book.isHeld(index));
        }
        new BookmarkManager().addRibbon(5, 1);
        check.due(false, "isHeld(5), with a ribbon on page 5 of another book", () -> book.isHeld(5));
        check.due(0, "the first id, with a ribbon in another book", () -> book.addDogEar(5, 1));
    }

    // ---- Promise 2

    @Sentence(of = "Promise 2", says = "Adds a ribbon.")
    static void addRibbon(Check check) {
        BookmarkManager book = new BookmarkManager();
        book.addRibbon(0, 1);
        book.addRibbon(59, 9);
        check.due("0r0*1w0s0 1r59*9w0s1 | 0 | reader 0 votes 0 0 fallen 0", "the state", () -> Books.state(book));
        check.due(true, "isRibbon(1)", () -> book.isRibbon(1));
        check.due(2, "undoCount()", book::undoCount);
    }

    @Sentence(of = "Promise 2", says = "It takes the free seat with the lowest number.")
    static void lowestFreeSeat(Check check) {
        BookmarkManager book = new BookmarkManager();
        for (int seat = 0; seat < 5; seat++) {
            int index = seat;
            book.addRibbon(50 - seat, 1);
            check.due(index, "the seat of ribbon " + seat, () -> book.seatOf(index));
        }
        Books.run(book, "X3;X1");
        book.addRibbon(59, 1);
        check.due(1, "the seat, with 1 and 3 free", () -> book.seatOf(5));
        book.addRibbon(0, 1);
        check.due(3, "the seat, with 3 free", () -> book.seatOf(6));
        Books.run(book, "X4;X0");
        book.addRibbon(1, 1);
        check.due(0, "the seat, with 0 and 4 free", () -> book.seatOf(7));
        book.addRibbon(2, 1);
        check.due(4, "the last seat", () -> book.seatOf(8));
        Refusal.rejected(check, SentencesOfMarks::fiveRibbons, "2 5 -", "addRibbon without a free seat", at -> at.addRibbon(9, 1));
        BookmarkManager ears = Books.with("E1:1;E2:1;R3:1");
        check.due(0, "the seat behind dog ears", () -> ears.seatOf(2));
    }

    @Sentence(of = "Promise 2", says = WEIGHT)
    static void weightOfRibbon(Check check) {
        for (int weight = 1; weight <= 9; weight++) {
            int value = weight;
            BookmarkManager book = new BookmarkManager();
            check.due(0, "addRibbon(0, " + weight + ")", () -> book.addRibbon(0, value));
            check.due(value, "weightOf(0)", () -> book.weightOf(0));
        }
        Refusal.refused(check, SentencesOfMarks::marks, BAD, "addRibbon, weight", (at, weight) -> at.addRibbon(0, weight), 0, 10);
    }

    @Sentence(of = "Promise 2", says = "Returns the id of the ribbon.")
    static void idOfRibbon(Check check) {
        BookmarkManager book = new BookmarkManager();
        check.due(0, "addRibbon(59, 1), the first mark", () -> book.addRibbon(59, 1));
        check.due(1, "addRibbon(0, 1)", () -> book.addRibbon(0, 1));
        check.due(59, "pageOf(0)", () -> book.pageOf(0));
        check.due(0, "pageOf(1)", () -> book.pageOf(1));
        check.due(6, "addRibbon(0, 1) after six marks", () -> marks().addRibbon(0, 1));
    }

    @Sentence(of = "Promise 2", says = NO_PAGE)
    static void addRibbonOnNoPage(Check check) {
        Refusal.taken(check, SentencesOfMarks::marks, "addRibbon", (at, page) -> at.addRibbon(page, 1), 0, 59);
        Refusal.refused(check, SentencesOfMarks::marks, NO_SUCH, "addRibbon", (at, page) -> at.addRibbon(page, 1), NO_PAGES);
        Refusal.refused(check, SentencesOfMarks::marks, NO_SUCH, "addRibbon(60, 0)", at -> at.addRibbon(60, 0));
        Refusal.refused(check, SentencesOfMarks::twelveMarks, NO_SUCH, "addRibbon(-1, 1)", at -> at.addRibbon(-1, 1));
    }

    @Sentence(of = "Promise 2", says = NO_WEIGHT)
    static void addRibbonOfNoWeight(Check check) {
        Refusal.taken(check, SentencesOfMarks::marks, "addRibbon, weight", (at, weight) -> at.addRibbon(0, weight), 1, 9);
        Refusal.refused(check, SentencesOfMarks::marks, BAD, "addRibbon, weight", (at, weight) -> at.addRibbon(0, weight), NO_WEIGHTS);
        Refusal.refused(check, SentencesOfMarks::marks, BAD, "addRibbon(20, 10) on a held page", at -> at.addRibbon(20, 10));
        Refusal.refused(check, SentencesOfMarks::twelveMarks, BAD, "addRibbon(0, 0) with 12 marks", at -> at.addRibbon(0, 0));
    }

    @Sentence(of = "Promise 2",
        says = "Throws `UnsupportedOperationException` if the call is rejected with the reason MARK_LIMIT, NO_FREE_SEAT or PAGE_HELD")
    static void addRibbonRejected(Check check) {
        Refusal.rejected(check, SentencesOfMarks::twelveMarks, "1 12 -", "addRibbon(0, 1)", at -> at.addRibbon(0, 1));
        Refusal.rejected(check, SentencesOfMarks::twelveMarks, "1 12 -", "addRibbon(1, 1)", at -> at.addRibbon(1, 1));
        Refusal.rejected(check, SentencesOfMarks::fiveRibbons, "2 5 -", "addRibbon(0, 1)", at -> at.addRibbon(0, 1));
        Refusal.rejected(check, SentencesOfMarks::fiveRibbons, "2 5 -", "addRibbon(5, 1)", at -> at.addRibbon(5, 1));
        Refusal.rejected(check, SentencesOfMarks::marks, "3 1 -", "addRibbon(20, 1)", at -> at.addRibbon(20, 1));
        Refusal.rejected(check, SentencesOfMarks::marks, "3 5 -", "addRibbon(50, 1)", at -> at.addRibbon(50, 1));
        BookmarkManager eleven = twelveMarks();
        eleven.removeMark(0);
        check.due(12, "addRibbon(0, 1) with 11 marks and 4 ribbons", () -> eleven.addRibbon(0, 1));
    }

    // ---- Promise 3

    @Sentence(of = "Promise 3", says = "Adds a dog ear.")
    static void addDogEar(Check check) {
        BookmarkManager book = new BookmarkManager();
        book.addDogEar(0, 1);
        book.addDogEar(59, 9);
        check.due("0e0*1w0 1e59*9w0 | 0 | reader 0 votes 0 0 fallen 0", "the state", () -> Books.state(book));
        check.due(false, "isRibbon(1)", () -> book.isRibbon(1));
        check.due("-,-,-,-,-", "the seats", () -> Books.seatText(book));
        check.due(5, "addDogEar(9, 1) without a free seat", () -> fiveRibbons().addDogEar(9, 1));
    }

    @Sentence(of = "Promise 3", says = WEIGHT)
    static void weightOfDogEar(Check check) {
        for (int weight = 1; weight <= 9; weight++) {
            int value = weight;
            BookmarkManager book = new BookmarkManager();
            check.due(0, "addDogEar(0, " + weight + ")", () -> book.addDogEar(0, value));
            check.due(value, "weightOf(0)", () -> book.weightOf(0));
        }
        Refusal.refused(check, SentencesOfMarks::marks, BAD, "addDogEar, weight", (at, weight) -> at.addDogEar(0, weight), 0, 10);
    }

    @Sentence(of = "Promise 3", says = "Returns the id of the dog ear.")
    static void idOfDogEar(Check check) {
        BookmarkManager book = new BookmarkManager();
        check.due(0, "addDogEar(59, 1), the first mark", () -> book.addDogEar(59, 1));
        check.due(1, "addDogEar(0, 1)", () -> book.addDogEar(0, 1));
        check.due(59, "pageOf(0)", () -> book.pageOf(0));
        check.due(0, "pageOf(1)", () -> book.pageOf(1));
        check.due(6, "addDogEar(0, 1) after six marks", () -> marks().addDogEar(0, 1));
    }

    @Sentence(of = "Promise 3", says = NO_PAGE)
    static void addDogEarOnNoPage(Check check) {
        Refusal.taken(check, SentencesOfMarks::marks, "addDogEar", (at, page) -> at.addDogEar(page, 1), 0, 59);
        Refusal.refused(check, SentencesOfMarks::marks, NO_SUCH, "addDogEar", (at, page) -> at.addDogEar(page, 1), NO_PAGES);
        Refusal.refused(check, SentencesOfMarks::marks, NO_SUCH, "addDogEar(60, 0)", at -> at.addDogEar(60, 0));
        Refusal.refused(check, SentencesOfMarks::twelveMarks, NO_SUCH, "addDogEar(-1, 1)", at -> at.addDogEar(-1, 1));
    }

    @Sentence(of = "Promise 3", says = NO_WEIGHT)
    static void addDogEarOfNoWeight(Check check) {
        Refusal.taken(check, SentencesOfMarks::marks, "addDogEar, weight", (at, weight) -> at.addDogEar(0, weight), 1, 9);
        Refusal.refused(check, SentencesOfMarks::marks, BAD, "addDogEar, weight", (at, weight) -> at.addDogEar(0, weight), NO_WEIGHTS);
        Refusal.refused(check, SentencesOfMarks::marks, BAD, "addDogEar(20, 10) on a held page", at -> at.addDogEar(20, 10));
        Refusal.refused(check, SentencesOfMarks::twelveMarks, BAD, "addDogEar(0, 0) with 12 marks", at -> at.addDogEar(0, 0));
    }

    @Sentence(of = "Promise 3",
        says = "Throws `UnsupportedOperationException` if the call is rejected with the reason MARK_LIMIT or PAGE_HELD")
    static void addDogEarRejected(Check check) {
        Refusal.rejected(check, SentencesOfMarks::twelveMarks, "1 12 -", "addDogEar(0, 1)", at -> at.addDogEar(0, 1));
        Refusal.rejected(check, SentencesOfMarks::twelveMarks, "1 12 -", "addDogEar(12, 1)", at -> at.addDogEar(12, 1));
        Refusal.rejected(check, SentencesOfMarks::marks, "3 1 -", "addDogEar(20, 1)", at -> at.addDogEar(20, 1));
        Refusal.rejected(check, SentencesOfMarks::marks, "3 5 -", "addDogEar(50, 1)", at -> at.addDogEar(50, 1));
        BookmarkManager eleven = twelveMarks();
        eleven.removeMark(11);
        check.due(12, "addDogEar(0, 1) with 11 marks", () -> eleven.addDogEar(0, 1));
    }

    // ---- Promise 4

    @Sentence(of = "Promise 4", says = "Removes a mark.")
    static void removeMark(Check check) {
        BookmarkManager book = Books.with("E59:1;R0:2;E30:3");
        book.removeMark(0);
        check.due("1r0*2w0s0 2e30*3w0 | 0 | reader 0 votes 0 0 fallen 0", "without the mark on the last page", () -> Books.state(book));
        book.removeMark(1);
        check.due("2e30*3w0 | 0 | reader 0 votes 0 0 fallen 0", "without the mark on the first page", () -> Books.state(book));
        book.removeMark(2);
        check.due("| 0 | reader 0 votes 0 0 fallen 0", "without the only mark", () -> Books.state(book));
        BookmarkManager full = twelveMarks();
        full.removeMark(11);
        check.due(11, "markCount()", full::markCount);
        check.due(true, "isConsistent()", full::isConsistent);
    }

    @Sentence(of = "Promise 4", says = "The seat of a ribbon becomes free.")
    static void seatBecomesFree(Check check) {
        BookmarkManager book = fiveRibbons();
        check.due(0, "ribbonIn(0)", () -> book.ribbonIn(0));
        book.removeMark(0);
        check.thrown(NONE, "ribbonIn(0), the first seat", () -> book.ribbonIn(0));
        book.removeMark(4);
        check.thrown(NONE, "ribbonIn(4), the last seat", () -> book.ribbonIn(4));
        check.due("-,2,3,4,-", "the other seats", () -> Books.seatText(book));
        check.due(5, "addRibbon(9, 1)", () -> book.addRibbon(9, 1));
        check.due(5, "ribbonIn(0)", () -> book.ribbonIn(0));
    }

    @Sentence(of = "Promise 4", says = "Returns the page of the mark.")
    static void pageOfRemoved(Check check) {
        check.due(0, "removeMark(0) on page 0", () -> Books.with("R0:1;E59:1").removeMark(0));
        check.due(59, "removeMark(1) on page 59", () -> Books.with("R0:1;E59:1").removeMark(1));
        check.due(8, "removeMark(0) of a ribbon that was moved", () -> Books.with("R0:1;E59:1;M0:8").removeMark(0));
    }

    @Sentence(of = "Promise 4", says = NO_MARK)
    static void removeNoMark(Check check) {
        Refusal.taken(check, SentencesOfMarks::marks, "removeMark", BookmarkManager::removeMark, 1, 5);
        Refusal.refused(check, SentencesOfMarks::marks, NO_SUCH, "removeMark", BookmarkManager::removeMark, NO_IDS);
        Refusal.refused(check, BookmarkManager::new, NO_SUCH, "removeMark", BookmarkManager::removeMark, 0);
    }

    // ---- Promise 5

    @Sentence(of = "Promise 5", says = "Moves a ribbon to another page.")
    static void moveRibbon(Check check) {
        BookmarkManager book = marks();
        book.moveRibbon(1, 0);
        check.due("1r0*4w0s0 2e5*2w1 4r10*3w0s2 3r40*9w0s1 5e50*1w0 | 0 | reader 9 votes 0 0 fallen 0", "moved to page 0",
            () -> Books.state(book));
        book.moveRibbon(1, 59);
        check.due("2e5*2w1 4r10*3w0s2 3r40*9w0s1 5e50*1w0 1r59*4w0s0 | 0 | reader 9 votes 0 0 fallen 0", "moved to page 59",
            () -> Books.state(book));
        book.moveRibbon(1, 58);
        check.due(58, "pageOf(1), moved by one page", () -> book.pageOf(1));
        BookmarkManager full = twelveMarks();
        full.moveRibbon(0, 59);
        check.due(59, "pageOf(0), moved among 12 marks", () -> full.pageOf(0));
        check.due(0, "markByPage(11)", () -> full.markByPage(11));
    }

    @Sentence(of = "Promise 5", says = "Returns the page of the ribbon before the call.")
    static void pageBeforeMove(Check check) {
        BookmarkManager book = Books.with("R0:1");
        check.due(0, "moveRibbon(0, 59)", () -> book.moveRibbon(0, 59));
        check.due(59, "moveRibbon(0, 30)", () -> book.moveRibbon(0, 30));
        check.due(30, "moveRibbon(0, 31)", () -> book.moveRibbon(0, 31));
    }

    @Sentence(of = "Promise 5", says = "Throws `IndexOutOfBoundsException` if there is no mark with this id, or no such page")
    static void moveNoMarkOrToNoPage(Check check) {
        Refusal.taken(check, SentencesOfMarks::marks, "moveRibbon", (at, mark) -> at.moveRibbon(mark, 0), 1, 4);
        Refusal.refused(check, SentencesOfMarks::marks, NO_SUCH, "moveRibbon", (at, mark) -> at.moveRibbon(mark, 0), NO_IDS);
        Refusal.taken(check, SentencesOfMarks::marks, "moveRibbon, page", (at, page) -> at.moveRibbon(1, page), 0, 59);
        Refusal.refused(check, SentencesOfMarks::marks, NO_SUCH, "moveRibbon, page", (at, page) -> at.moveRibbon(1, page), NO_PAGES);
        Refusal.refused(check, SentencesOfMarks::marks, NO_SUCH, "moveRibbon(2, 60) of a dog ear", at -> at.moveRibbon(2, 60));
        Refusal.refused(check, SentencesOfMarks::marks, NO_SUCH, "moveRibbon(6, 20) to a held page", at -> at.moveRibbon(6, 20));
    }

    @Sentence(of = "Promise 5",
        says = "Throws `UnsupportedOperationException` if the call is rejected with the reason NOT_A_RIBBON or PAGE_HELD")
    static void moveRejected(Check check) {
        Refusal.rejected(check, SentencesOfMarks::marks, "4 2 -", "moveRibbon(2, 0)", at -> at.moveRibbon(2, 0));
        Refusal.rejected(check, SentencesOfMarks::marks, "4 2 -", "moveRibbon(2, 20)", at -> at.moveRibbon(2, 20));
        Refusal.rejected(check, SentencesOfMarks::marks, "3 2 -", "moveRibbon(1, 5)", at -> at.moveRibbon(1, 5));
        Refusal.rejected(check, SentencesOfMarks::marks, "3 1 -", "moveRibbon(1, 20), its own page", at -> at.moveRibbon(1, 20));
        Refusal.taken(check, SentencesOfMarks::marks, "moveRibbon, page", (at, page) -> at.moveRibbon(1, page), 4, 6, 19, 21);
    }

    // ---- Promise 6

    @Sentence(of = "Promise 6", says = "Exchanges the seats of two ribbons.")
    static void swapSeats(Check check) {
        BookmarkManager book = fiveRibbons();
        book.swapSeats(0, 4);
        check.due("5,2,3,4,1", "the first and the last seat", () -> Books.seatText(book));
        book.swapSeats(0, 1);
        check.due("5,1,3,4,2", "the seats", () -> Books.seatText(book));
        check.due("0r1*1w0s1 1r2*1w0s4 2r3*1w0s2 3r4*1w0s3 4r5*1w0s0 | 0 | reader 0 votes 0 0 fallen 0", "nothing else",
            () -> Books.state(book));
        BookmarkManager two = Books.with("R1:1;R2:1", "S0,1");
        two.swapSeats(0, 1);
        check.due("1,2,-,-,-", "exchanged twice", () -> Books.seatText(two));
    }

    @Sentence(of = "Promise 6", says = "Returns the seat of the first ribbon after the call.")
    static void seatAfterSwap(Check check) {
        check.due(4, "swapSeats(0, 4)", () -> fiveRibbons().swapSeats(0, 4));
        check.due(0, "swapSeats(4, 0)", () -> fiveRibbons().swapSeats(4, 0));
        check.due(2, "swapSeats(1, 2)", () -> fiveRibbons().swapSeats(1, 2));
    }

    @Sentence(of = "Promise 6",
        says = "Throws `IndexOutOfBoundsException` if there is no mark with this id, for either argument")
    static void swapNoMark(Check check) {
        Refusal.taken(check, SentencesOfMarks::marks, "swapSeats, first", (at, mark) -> at.swapSeats(mark, 3), 1, 4);
        Refusal.refused(check, SentencesOfMarks::marks, NO_SUCH, "swapSeats, first", (at, mark) -> at.swapSeats(mark, 3), NO_IDS);
        Refusal.taken(check, SentencesOfMarks::marks, "swapSeats, second", (at, mark) -> at.swapSeats(3, mark), 1, 4);
        Refusal.refused(check, SentencesOfMarks::marks, NO_SUCH, "swapSeats, second", (at, mark) -> at.swapSeats(3, mark), NO_IDS);
        Refusal.refused(check, SentencesOfMarks::marks, NO_SUCH, "swapSeats(2, 6) of a dog ear", at -> at.swapSeats(2, 6));
        Refusal.refused(check, SentencesOfMarks::marks, NO_SUCH, "swapSeats(6, 6)", at -> at.swapSeats(6, 6));
    }

    @Sentence(of = "Promise 6",
        says = "Throws `UnsupportedOperationException` if the call is rejected with the reason NOT_A_RIBBON, for the first argument, then for the second one, or SAME_RIBBON")
    static void swapRejected(Check check) {
        Refusal.rejected(check, SentencesOfMarks::marks, "4 2 -", "swapSeats(2, 1)", at -> at.swapSeats(2, 1));
        Refusal.rejected(check, SentencesOfMarks::marks, "4 5 -", "swapSeats(1, 5)", at -> at.swapSeats(1, 5));
        Refusal.rejected(check, SentencesOfMarks::marks, "4 5 -", "swapSeats(5, 2)", at -> at.swapSeats(5, 2));
        Refusal.rejected(check, SentencesOfMarks::marks, "4 2 -", "swapSeats(2, 2)", at -> at.swapSeats(2, 2));
        Refusal.rejected(check, SentencesOfMarks::marks, "5 1 -", "swapSeats(1, 1)", at -> at.swapSeats(1, 1));
        Refusal.rejected(check, SentencesOfMarks::marks, "5 4 -", "swapSeats(4, 4)", at -> at.swapSeats(4, 4));
    }

    // ---- Promises 7 to 10

    @Sentence(of = "Promise 7", says = "Tells whether a mark is a ribbon.")
    static void isRibbon(Check check) {
        BookmarkManager book = twelveMarks();
        for (int mark = 0; mark < 12; mark++) {
            int id = mark;
            check.due(mark < 5, "isRibbon(" + mark + ")", () -> book.isRibbon(id));
        }
        Books.run(book, "9;S0,4;M0:59;T20");
        check.due(true, "isRibbon(0) after a swap, a move and a turn", () -> book.isRibbon(0));
    }

    @Sentence(of = "Promise 7", says = "Returns true for a ribbon, false for a dog ear.")
    static void isRibbonOrDogEar(Check check) {
        check.due(true, "isRibbon(0) of a ribbon", () -> Books.with("R0:1").isRibbon(0));
        check.due(false, "isRibbon(0) of a dog ear", () -> Books.with("E0:1").isRibbon(0));
        check.due(true, "isRibbon(4) in the last seat", () -> fiveRibbons().isRibbon(4));
        check.due(false, "isRibbon(2) of a worn dog ear", () -> marks().isRibbon(2));
    }

    @Sentence(of = "Promise 7", says = NO_MARK)
    static void isNoMark(Check check) {
        Refusal.taken(check, SentencesOfMarks::marks, "isRibbon", BookmarkManager::isRibbon, 1, 5);
        Refusal.refused(check, SentencesOfMarks::marks, NO_SUCH, "isRibbon", BookmarkManager::isRibbon, NO_IDS);
    }

    @Sentence(of = "Promise 8", says = "Returns the page of a mark.")
    static void pageOf(Check check) {
        BookmarkManager book = Books.with("R0:1;E59:1;E1:1;R58:1");
        check.due(0, "pageOf(0)", () -> book.pageOf(0));
        check.due(59, "pageOf(1)", () -> book.pageOf(1));
        check.due(1, "pageOf(2)", () -> book.pageOf(2));
        check.due(58, "pageOf(3)", () -> book.pageOf(3));
        book.moveRibbon(3, 30);
        check.due(30, "pageOf(3) after a move", () -> book.pageOf(3));
    }

    @Sentence(of = "Promise 8", says = NO_MARK)
    static void pageOfNoMark(Check check) {
        Refusal.taken(check, SentencesOfMarks::marks, "pageOf", BookmarkManager::pageOf, 1, 5);
        Refusal.refused(check, SentencesOfMarks::marks, NO_SUCH, "pageOf", BookmarkManager::pageOf, NO_IDS);
    }

    @Sentence(of = "Promise 9", says = "Returns the weight of a mark.")
    static void weightOf(Check check) {
        BookmarkManager book = Books.with("R9:1;E8:9;E7:1;R6:9");
        int[] weights = {1, 9, 1, 9};
        for (int mark = 0; mark < 4; mark++) {
            int id = mark;
            check.due(weights[id], "weightOf(" + id + ")", () -> book.weightOf(id));
        }
        Books.run(book, "M0:59;S0,3;T20");
        check.due(1, "weightOf(0) after a move and a swap", () -> book.weightOf(0));
        check.due(9, "weightOf(1) after a wear", () -> book.weightOf(1));
    }

    @Sentence(of = "Promise 9", says = NO_MARK)
    static void weightOfNoMark(Check check) {
        Refusal.taken(check, SentencesOfMarks::marks, "weightOf", BookmarkManager::weightOf, 1, 5);
        Refusal.refused(check, SentencesOfMarks::marks, NO_SUCH, "weightOf", BookmarkManager::weightOf, NO_IDS);
    }

    @Sentence(of = "Promise 10", says = "Returns the wear of a mark.")
    static void wearOf(Check check) {
        BookmarkManager book = Books.with("E1:1");
        check.due(0, "wearOf(0) at first", () -> book.wearOf(0));
        book.turnPages(1, true);
        check.due(1, "wearOf(0)", () -> book.wearOf(0));
        Books.run(book, "B1;T1");
        check.due(2, "wearOf(0), the greatest", () -> book.wearOf(0));
        book.turnPages(20, true);
        check.due(2, "wearOf(0) of a page that the reader leaves", () -> book.wearOf(0));
    }

    @Sentence(of = "Promise 10", says = "Returns the wear, 0 for a ribbon.")
    static void wearOfRibbon(Check check) {
        BookmarkManager book = Books.with("R1:1;E2:1", "T3;B3;T1");
        check.due(0, "wearOf(0) of a ribbon that the reader came to three times", () -> book.wearOf(0));
        check.due(2, "wearOf(1) of the dog ear beside it", () -> book.wearOf(1));
        check.due(0, "wearOf(0) of a new ribbon", () -> Books.with("R1:1").wearOf(0));
    }

    @Sentence(of = "Promise 10", says = NO_MARK)
    static void wearOfNoMark(Check check) {
        Refusal.taken(check, SentencesOfMarks::marks, "wearOf", BookmarkManager::wearOf, 1, 5);
        Refusal.refused(check, SentencesOfMarks::marks, NO_SUCH, "wearOf", BookmarkManager::wearOf, NO_IDS);
    }

    // ---- Promises 11 and 12

    @Sentence(of = "Promise 11", says = "Returns the seat of a ribbon.")
    static void seatOf(Check check) {
        BookmarkManager book = fiveRibbons();
        check.due(0, "seatOf(0), the first seat", () -> book.seatOf(0));
        check.due(4, "seatOf(4), the last seat", () -> book.seatOf(4));
        Books.run(book, "9;S0,4;M0:59");
        check.due(4, "seatOf(0) after a swap and a move", () -> book.seatOf(0));
        check.due(0, "seatOf(4) after a swap", () -> book.seatOf(4));
    }

    @Sentence(of = "Promise 11", says = NO_MARK)
    static void seatOfNoMark(Check check) {
        Refusal.taken(check, SentencesOfMarks::marks, "seatOf", BookmarkManager::seatOf, 1, 4);
        Refusal.refused(check, SentencesOfMarks::marks, NO_SUCH, "seatOf", BookmarkManager::seatOf, NO_IDS);
    }

    @Sentence(of = "Promise 11", says = "Throws `NoSuchElementException` if the mark is a dog ear")
    static void seatOfDogEar(Check check) {
        Refusal.taken(check, SentencesOfMarks::marks, "seatOf", BookmarkManager::seatOf, 1, 3, 4);
        Refusal.refused(check, SentencesOfMarks::marks, NONE, "seatOf", BookmarkManager::seatOf, 2, 5);
        Refusal.refused(check, () -> Books.with("E0:1"), NONE, "seatOf", BookmarkManager::seatOf, 0);
    }

    @Sentence(of = "Promise 12", says = "Returns the ribbon in a seat.")
    static void ribbonIn(Check check) {
        BookmarkManager book = Books.with("E9:1;R1:1;R2:1;R3:1;R4:1;R5:1");
        for (int seat = 0; seat < 5; seat++) {
            int index = seat;
            check.due(index + 1, "ribbonIn(" + index + ")", () -> book.ribbonIn(index));
        }
        Books.run(book, "S1,5;M1:59");
        check.due(5, "ribbonIn(0) after a swap", () -> book.ribbonIn(0));
        check.due(1, "ribbonIn(4) after a swap and a move", () -> book.ribbonIn(4));
    }

    @Sentence(of = "Promise 12", says = "Returns the id of the ribbon.")
    static void idInSeat(Check check) {
        check.due(0, "ribbonIn(0), with the id 0", () -> Books.with("R59:1").ribbonIn(0));
        check.due(6, "ribbonIn(3), with a later id", () -> {
            BookmarkManager book = marks();
            book.addRibbon(0, 1);
            return book.ribbonIn(3);
        });
    }

    @Sentence(of = "Promise 12", says = "Throws `IndexOutOfBoundsException` if there is no such seat")
    static void ribbonInNoSeat(Check check) {
        Refusal.taken(check, SentencesOfMarks::fiveRibbons, "ribbonIn", BookmarkManager::ribbonIn, 0, 4);
        Refusal.refused(check, SentencesOfMarks::fiveRibbons, NO_SUCH, "ribbonIn", BookmarkManager::ribbonIn, -1, 5, MIN, MAX);
        Refusal.refused(check, () -> Books.with("E5:1"), NO_SUCH, "ribbonIn", BookmarkManager::ribbonIn, -1, 5);
    }

    @Sentence(of = "Promise 12", says = "Throws `NoSuchElementException` if the seat is free")
    static void ribbonInFreeSeat(Check check) {
        Refusal.taken(check, SentencesOfMarks::marks, "ribbonIn", BookmarkManager::ribbonIn, 0, 1, 2);
        Refusal.refused(check, SentencesOfMarks::marks, NONE, "ribbonIn", BookmarkManager::ribbonIn, 3, 4);
        Refusal.refused(check, BookmarkManager::new, NONE, "ribbonIn", BookmarkManager::ribbonIn, 0, 4);
        Refusal.refused(check, () -> Books.settled("R1:1;R2:1", "X0"), NONE, "ribbonIn", BookmarkManager::ribbonIn, 0, 2);
    }
}
