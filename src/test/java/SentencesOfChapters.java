/** Promises 19, 21 to 25 and 30: the chapters and what is in them. */
final class SentencesOfChapters {
    private static final String NO_CHAPTER = "Throws `IndexOutOfBoundsException` if there is no such chapter";

    private static final Class<IndexOutOfBoundsException> NO_SUCH = IndexOutOfBoundsException.class;
    private static final int MIN = Integer.MIN_VALUE;
    private static final int MAX = Integer.MAX_VALUE;

    private SentencesOfChapters() {
    }

    /**
     * The chapters start on the pages 0, 10, 20 and 59. Marks: a ribbon of weight 1 on page 0, dog ears of weight 2 on
     * page 9 and of weight 3 on page 10, a ribbon of weight 4 on page 19 and one of weight 9 on page 59.
     */
    private static BookmarkManager fourChapters() {
        return Books.settled("R0:1;E9:2;E10:3;R19:4;R59:9", "C20;C59;C10");
    }

    private static BookmarkManager eightChapters() {
        return Books.settled("C1;C2;C3;C4;C5;C6", "C7");
    }

    /** An index of no chapter is refused by a call; all the indices of chapters are taken. */
    private static void chapters(Check check, String name, Refusal.IntCall call) {
        Refusal.taken(check, SentencesOfChapters::fourChapters, name, call, 0, 3);
        Refusal.refused(check, SentencesOfChapters::fourChapters, NO_SUCH, name, call, -1, 4, MIN, MAX);
        Refusal.taken(check, SentencesOfChapters::eightChapters, name, call, 7);
        Refusal.refused(check, SentencesOfChapters::eightChapters, NO_SUCH, name, call, 8);
        Refusal.taken(check, BookmarkManager::new, name, call, 0);
        Refusal.refused(check, BookmarkManager::new, NO_SUCH, name, call, 1, -1);
        Refusal.refused(check, () -> Books.settled("R0:1;C30", "V1"), NO_SUCH, name, call, 1);
    }

    private static String starts(BookmarkManager book) {
        StringBuilder text = new StringBuilder();
        for (int chapter = 0; chapter < book.chapterCount(); chapter++) {
            text.append(chapter == 0 ? "" : " ").append(book.firstPage(chapter));
        }
        return text.toString();
    }

    // ---- Promise 19

    @Sentence(of = "Promise 19",
        says = "Starts a new chapter on a page: the chapter of the page is split, and its part from this page on becomes a chapter of its own.")
    static void startChapter(Check check) {
        BookmarkManager book = new BookmarkManager();
        book.startChapter(1);
        check.due("0 1", "the chapters after startChapter(1)", () -> starts(book));
        check.due(0, "lastPage(0)", () -> book.lastPage(0));
        check.due(59, "lastPage(1)", () -> book.lastPage(1));
        book.startChapter(59);
        check.due("0 1 59", "the chapters after startChapter(59)", () -> starts(book));
        check.due(58, "lastPage(1)", () -> book.lastPage(1));
        book.startChapter(58);
        check.due("0 1 58 59", "the chapters after startChapter(58), the last page of a chapter", () -> starts(book));
        book.startChapter(2);
        check.due("0 1 2 58 59", "the chapters after startChapter(2)", () -> starts(book));
        check.due(1, "lastPage(1), a chapter of one page", () -> book.lastPage(1));
        BookmarkManager marked = Books.with("E9:1;R10:2;E11:4", "C10");
        check.due(1, "chapterWeight(0)", () -> marked.chapterWeight(0));
        check.due(6, "chapterWeight(1), the part from page 10 on", () -> marked.chapterWeight(1));
    }

    @Sentence(of = "Promise 19", says = "The indices of all later chapters become greater by 1.")
    static void laterIndicesGreater(Check check) {
        BookmarkManager book = Books.with("C10;C20;C30;C40;C50;C55");
        check.due(6, "chapterOf(59)", () -> book.chapterOf(59));
        book.startChapter(5);
        check.due("0 5 10 20 30 40 50 55", "the chapters", () -> starts(book));
        check.due(7, "chapterOf(59), the last chapter", () -> book.chapterOf(59));
        check.due(2, "chapterOf(10), the next chapter", () -> book.chapterOf(10));
        check.due(0, "chapterOf(4), the chapter ahead", () -> book.chapterOf(4));
        BookmarkManager last = Books.with("C10;C20", "C59");
        check.due(2, "chapterOf(58), ahead of the new last chapter", () -> last.chapterOf(58));
        check.due(1, "chapterOf(19)", () -> last.chapterOf(19));
    }

    @Sentence(of = "Promise 19", says = "Returns the index of the new chapter.")
    static void indexOfNewChapter(Check check) {
        check.due(1, "startChapter(1), the first one that can be", () -> new BookmarkManager().startChapter(1));
        check.due(1, "startChapter(59), the last one that can be", () -> new BookmarkManager().startChapter(59));
        check.due(1, "startChapter(5) ahead of others", () -> fourChapters().startChapter(5));
        check.due(2, "startChapter(11) among others", () -> fourChapters().startChapter(11));
        check.due(3, "startChapter(58) ahead of the last one", () -> fourChapters().startChapter(58));
        check.due(7, "startChapter(59), the 8th", () -> Books.with("C1;C2;C3;C4;C5;C6").startChapter(59));
    }

    @Sentence(of = "Promise 19", says = "Throws `IndexOutOfBoundsException` if there is no such page")
    static void startOnNoPage(Check check) {
        Refusal.taken(check, SentencesOfChapters::fourChapters, "startChapter", BookmarkManager::startChapter, 1, 58);
        Refusal.taken(check, BookmarkManager::new, "startChapter", BookmarkManager::startChapter, 1, 59);
        Refusal.refused(check, SentencesOfChapters::fourChapters, NO_SUCH, "startChapter", BookmarkManager::startChapter,
            -1, 60, MIN, MAX);
        Refusal.refused(check, SentencesOfChapters::eightChapters, NO_SUCH, "startChapter", BookmarkManager::startChapter, -1, 60);
    }

    @Sentence(of = "Promise 19",
        says = "Throws `UnsupportedOperationException` if the call is rejected with the reason CHAPTER_LIMIT or CHAPTER_START")
    static void startRejected(Check check) {
        Refusal.rejected(check, SentencesOfChapters::eightChapters, "6 8 -", "startChapter(8)", at -> at.startChapter(8));
        Refusal.rejected(check, SentencesOfChapters::eightChapters, "6 8 -", "startChapter(7)", at -> at.startChapter(7));
        Refusal.rejected(check, SentencesOfChapters::eightChapters, "6 8 -", "startChapter(0)", at -> at.startChapter(0));
        Refusal.rejected(check, SentencesOfChapters::fourChapters, "7 0 -", "startChapter(0)", at -> at.startChapter(0));
        Refusal.rejected(check, SentencesOfChapters::fourChapters, "7 2 -", "startChapter(20)", at -> at.startChapter(20));
        Refusal.rejected(check, SentencesOfChapters::fourChapters, "7 3 -", "startChapter(59)", at -> at.startChapter(59));
        Refusal.taken(check, SentencesOfChapters::fourChapters, "startChapter", BookmarkManager::startChapter, 1, 9, 11, 58);
        Refusal.taken(check, () -> Books.with("C1;C2;C3;C4;C5;C6"), "startChapter", BookmarkManager::startChapter, 7);
    }

    // ---- Promises 21 and 22

    @Sentence(of = "Promise 21", says = "Returns the first page of a chapter.")
    static void firstPage(Check check) {
        check.due("0 10 20 59", "the first pages", () -> starts(fourChapters()));
        check.due("0 1 2 3 4 5 6 7", "the first pages of 8 chapters", () -> starts(eightChapters()));
        check.due(0, "firstPage(0) of the only chapter", () -> new BookmarkManager().firstPage(0));
        check.due(0, "firstPage(0) after the first chapter is dissolved", () -> Books.with("R59:1;C30", "V0").firstPage(0));
    }

    @Sentence(of = "Promise 21", says = NO_CHAPTER)
    static void firstPageOfNone(Check check) {
        chapters(check, "firstPage", BookmarkManager::firstPage);
    }

    @Sentence(of = "Promise 22", says = "Returns the last page of a chapter.")
    static void lastPage(Check check) {
        int[] lasts = {9, 19, 58, 59};
        for (int chapter = 0; chapter < 4; chapter++) {
            int index = chapter;
            check.due(lasts[index], "lastPage(" + index + ")", () -> fourChapters().lastPage(index));
        }
        check.due(6, "lastPage(6) of 8 chapters", () -> eightChapters().lastPage(6));
        check.due(59, "lastPage(7) of 8 chapters", () -> eightChapters().lastPage(7));
        check.due(59, "lastPage(0) of the only chapter", () -> new BookmarkManager().lastPage(0));
        check.due(59, "lastPage(0) after the last chapter is dissolved", () -> Books.with("R0:1;C30", "V1").lastPage(0));
    }

    @Sentence(of = "Promise 22", says = NO_CHAPTER)
    static void lastPageOfNone(Check check) {
        chapters(check, "lastPage", BookmarkManager::lastPage);
    }

    // ---- Promises 23 to 25

    private static void held(Check check, String name, Refusal.IntCall call) {
        int[] held = {2, 2, 0, 1};
        for (int chapter = 0; chapter < 4; chapter++) {
            int index = chapter;
            check.due(held[index], name + "(" + index + ")", () -> call.answer(fourChapters(), index));
        }
        check.due(0, name + "(0) without marks", () -> call.answer(new BookmarkManager(), 0));
        BookmarkManager full = Books.with("R0:1;E1:1;E2:1;E3:1;E4:1;E5:1", "E6:1;E7:1;E8:1;E9:1;E10:1;E11:1");
        check.due(12, name + "(0) with 12 marks", () -> call.answer(full, 0));
        full.startChapter(11);
        check.due(11, name + "(0), without the last one", () -> call.answer(full, 0));
        check.due(1, name + "(1), the last one", () -> call.answer(full, 1));
        full.startChapter(1);
        check.due(1, name + "(0) of one held page", () -> call.answer(full, 0));
    }

    @Sentence(of = "Promise 23", says = "Returns the number of held pages of a chapter, counted page by page.")
    static void heldPages(Check check) {
        held(check, "heldPages", BookmarkManager::heldPages);
    }

    @Sentence(of = "Promise 23", says = NO_CHAPTER)
    static void heldPagesOfNone(Check check) {
        chapters(check, "heldPages", BookmarkManager::heldPages);
    }

    @Sentence(of = "Promise 24",
        says = "Returns the number of held pages of a chapter in a second way: counted mark by mark.")
    static void heldPagesByMarks(Check check) {
        held(check, "heldPagesByMarks", BookmarkManager::heldPagesByMarks);
    }

    @Sentence(of = "Promise 24", says = NO_CHAPTER)
    static void heldPagesByMarksOfNone(Check check) {
        chapters(check, "heldPagesByMarks", BookmarkManager::heldPagesByMarks);
    }

    @Sentence(of = "Promise 25", says = "Returns the sum of the weights of all marks in a chapter.")
    static void chapterWeight(Check check) {
        int[] weights = {3, 7, 0, 9};
        for (int chapter = 0; chapter < 4; chapter++) {
            int index = chapter;
            check.due(weights[index], "chapterWeight(" + index + ")", () -> fourChapters().chapterWeight(index));
        }
        check.due(0, "chapterWeight(0) without marks", () -> new BookmarkManager().chapterWeight(0));
        BookmarkManager full = Books.with("R0:9;R1:9;R2:9;R3:9;R4:9;E5:9", "E6:9;E7:9;E8:9;E9:9;E10:9;E59:9");
        check.due(108, "chapterWeight(0) with 12 marks of the weight 9", () -> full.chapterWeight(0));
    }

    @Sentence(of = "Promise 25", says = NO_CHAPTER)
    static void chapterWeightOfNone(Check check) {
        chapters(check, "chapterWeight", BookmarkManager::chapterWeight);
    }

    // ---- Promise 30

    @Sentence(of = "Promise 30", says = "Returns the chapter with the greatest weight of its marks.")
    static void heaviest(Check check) {
        check.due(3, "heaviestChapter(), the last one", () -> fourChapters().heaviestChapter());
        check.due(1, "heaviestChapter(), the greatest sum", () -> Books.with("C10;C20;E9:8;R10:5;E19:4;E20:8").heaviestChapter());
        check.due(0, "heaviestChapter(), the first one", () -> Books.with("C10;C20;E9:3;R10:2;E20:2").heaviestChapter());
        check.due(0, "heaviestChapter() of the only chapter", () -> Books.with("E9:3").heaviestChapter());
        BookmarkManager book = Books.with("C10;C20;E9:3;R10:2;E20:2");
        book.moveRibbon(1, 59);
        check.due(2, "heaviestChapter() after a move", book::heaviestChapter);
    }

    @Sentence(of = "Promise 30", says = "Of several such chapters, the one with the lowest index is returned.")
    static void lowestHeaviest(Check check) {
        check.due(0, "heaviestChapter() of a new book", () -> new BookmarkManager().heaviestChapter());
        check.due(0, "heaviestChapter() of eight chapters without marks", () -> eightChapters().heaviestChapter());
        check.due(0, "heaviestChapter() of two", () -> Books.with("C10;E9:3;R10:3").heaviestChapter());
        check.due(1, "heaviestChapter() of the last two", () -> Books.with("C10;C20;E10:3;R20:3").heaviestChapter());
        check.due(1, "heaviestChapter() of two sums", () -> Books.with("C10;C20;C30;E10:3;R30:1;E31:2").heaviestChapter());
    }
}
