/** Promises 19 to 30: the calls on chapters. */
public final class ChaptersTest {
    private static final Check CHECK = new Check("ChaptersTest");
    private static final Class<IndexOutOfBoundsException> NO_SUCH = IndexOutOfBoundsException.class;
    private static final Class<UnsupportedOperationException> REJECTED = UnsupportedOperationException.class;

    private ChaptersTest() {
    }

    public static void main(String[] args) {
        startChapter();
        startChapterWrongly();
        carriedVote();
        voteOnTheFirst();
        voteWithAllMarks();
        voteNotCarried();
        voteWrongly();
        bounds();
        heldPages();
        weights();
        onlyChapter();
        heaviest();
        noSuchChapter();
        CHECK.end();
    }

    private static String starts(BookmarkManager book) {
        StringBuilder text = new StringBuilder();
        for (int chapter = 0; chapter < book.chapterCount(); chapter++) {
            text.append(chapter > 0 ? " " : "").append(book.firstPage(chapter));
        }
        return text.toString();
    }

    /** Promise 19. */
    private static void startChapter() {
        BookmarkManager book = new BookmarkManager();
        CHECK.due(1, "startChapter(30)", () -> book.startChapter(30));
        CHECK.due(1, "startChapter(10)", () -> book.startChapter(10));
        CHECK.due("0 10 30", "the starts", () -> starts(book));
        CHECK.due(3, "startChapter(59)", () -> book.startChapter(59));
        CHECK.due(1, "startChapter(1)", () -> book.startChapter(1));
        CHECK.due("0 1 10 30 59", "the starts", () -> starts(book));
        CHECK.due(3, "startChapter(20)", () -> book.startChapter(20));
        CHECK.due(2, "startChapter(5)", () -> book.startChapter(5));
        CHECK.due(6, "startChapter(40), the 8th chapter", () -> book.startChapter(40));
        CHECK.due("0 1 5 10 20 30 40 59", "the starts", () -> starts(book));
    }

    private static void startChapterWrongly() {
        BookmarkManager book = new BookmarkManager();
        CHECK.thrown(NO_SUCH, "startChapter(60)", () -> book.startChapter(60));
        CHECK.thrown(NO_SUCH, "startChapter(-1)", () -> book.startChapter(-1));
        CHECK.due("- - -", "no rejection", () -> Books.rejection(book));
        CHECK.thrown(REJECTED, "startChapter(0)", () -> book.startChapter(0));
        CHECK.due("7 0 -", "CHAPTER_START on page 0", () -> Books.rejection(book));
        Books.run(book, "C10;C20;C30");
        CHECK.thrown(REJECTED, "startChapter(20)", () -> book.startChapter(20));
        CHECK.due("7 2 -", "CHAPTER_START on page 20", () -> Books.rejection(book));
        Books.run(book, "C40;C50;C55;C57");
        CHECK.thrown(REJECTED, "startChapter(20) with 8 chapters", () -> book.startChapter(20));
        CHECK.due("6 8 -", "CHAPTER_LIMIT ahead of CHAPTER_START", () -> Books.rejection(book));
        CHECK.thrown(REJECTED, "startChapter(21) with 8 chapters", () -> book.startChapter(21));
        CHECK.due("0 10 20 30 40 50 55 57", "the starts", () -> starts(book));
    }

    /** Promise 20: a later chapter. */
    private static void carriedVote() {
        BookmarkManager book = Books.with("C10;C20;C30", "R5:9;E12:2;R14:1;E25:3;E3:1");
        CHECK.due(true, "voteToDissolve(1)", () -> book.voteToDissolve(1));
        CHECK.due("0 20 30", "it joins the previous chapter", () -> starts(book));
        CHECK.due("4e3*1w0 0r5*9w0s0 2r14*1w0s1 3e25*3w0 | 0 20 30 | reader 0 votes 1 1 fallen 0",
            "the dog ears of the chapter alone are removed", () -> Books.state(book));
        CHECK.due(true, "voteToDissolve(2), the last chapter", () -> book.voteToDissolve(2));
        CHECK.due("0 20", "the starts", () -> starts(book));
        CHECK.due(2, "votesHeld()", book::votesHeld);
        CHECK.due(2, "motionsCarried()", book::motionsCarried);
    }

    private static void voteOnTheFirst() {
        BookmarkManager book = Books.with("C10;C20;C30", "R25:9;E9:2;E10:1;R0:3");
        CHECK.due(true, "voteToDissolve(0)", () -> book.voteToDissolve(0));
        CHECK.due("0 20 30", "it joins the next chapter", () -> starts(book));
        CHECK.due("3r0*3w0s1 2e10*1w0 0r25*9w0s0 | 0 20 30 | reader 0 votes 1 1 fallen 0",
            "the dog ear of the next chapter stays", () -> Books.state(book));
    }

    private static void voteWithAllMarks() {
        BookmarkManager book = Books.with("R1:9;R2:9;R3:9", "E40:1;E41:1;E42:1;E43:1;E44:1;E45:1;E46:1;E47:1", "C40;E59:1");
        CHECK.due(27, "weightInFavour(1)", () -> book.weightInFavour(1));
        CHECK.due(9, "weightAgainst(1)", () -> book.weightAgainst(1));
        CHECK.due(9, "weightAgainstByTotal(1)", () -> book.weightAgainstByTotal(1));
        CHECK.due(9, "chapterWeight(1)", () -> book.chapterWeight(1));
        CHECK.due(9, "heldPages(1)", () -> book.heldPages(1));
        CHECK.due(9, "heldPagesByMarks(1)", () -> book.heldPagesByMarks(1));
        CHECK.due(true, "voteToDissolve(1)", () -> book.voteToDissolve(1));
        CHECK.due("0r1*9w0s0 1r2*9w0s1 2r3*9w0s2 | 0 | reader 0 votes 1 1 fallen 0", "all dog ears are gone",
            () -> Books.state(book));
        CHECK.due(27, "chapterWeight(0)", () -> book.chapterWeight(0));
        CHECK.due(27, "weightAgainst(0)", () -> book.weightAgainst(0));
        CHECK.due(3, "heldPagesByMarks(0)", () -> book.heldPagesByMarks(0));
        BookmarkManager full = Books.with("C1;C2;C3;C4;C5;C6;C7", "R59:1");
        CHECK.due(true, "voteToDissolve(3) of eight chapters", () -> full.voteToDissolve(3));
        CHECK.due("0 1 2 4 5 6 7", "the starts", () -> starts(full));
        CHECK.due(true, "voteToDissolve(0) of seven chapters", () -> full.voteToDissolve(0));
        CHECK.due("0 2 4 5 6 7", "the starts", () -> starts(full));
    }

    private static void voteNotCarried() {
        BookmarkManager book = Books.with("C10", "R5:4;E12:3;R14:1");
        CHECK.due(false, "voteToDissolve(1) with 4 to 4", () -> book.voteToDissolve(1));
        CHECK.due("0r5*4w0s0 1e12*3w0 2r14*1w0s1 | 0 10 | reader 0 votes 1 0 fallen 0", "nothing else changes",
            () -> Books.state(book));
        CHECK.due(3, "a motion that is not carried is a change", book::undoCount);
        book.removeMark(2);
        CHECK.due(true, "voteToDissolve(1) with 4 to 3", () -> book.voteToDissolve(1));
        BookmarkManager ears = Books.with("C10", "R5:4;E1:4");
        CHECK.due(false, "dog ears elsewhere are against", () -> ears.voteToDissolve(1));
    }

    private static void voteWrongly() {
        BookmarkManager book = new BookmarkManager();
        CHECK.thrown(NO_SUCH, "voteToDissolve(1)", () -> book.voteToDissolve(1));
        CHECK.thrown(NO_SUCH, "voteToDissolve(-1)", () -> book.voteToDissolve(-1));
        CHECK.due("- - -", "no rejection", () -> Books.rejection(book));
        CHECK.thrown(REJECTED, "voteToDissolve(0)", () -> book.voteToDissolve(0));
        CHECK.due("8 0 -", "ONLY_CHAPTER", () -> Books.rejection(book));
        CHECK.due(0, "a rejected vote is not held", book::votesHeld);
        CHECK.due(0, "a rejected vote is no change", book::undoCount);
    }

    /** Promises 21 and 22. */
    private static void bounds() {
        BookmarkManager book = Books.with("C30", "C10", "C59");
        CHECK.due(0, "firstPage(0)", () -> book.firstPage(0));
        CHECK.due(9, "lastPage(0)", () -> book.lastPage(0));
        CHECK.due(10, "firstPage(1)", () -> book.firstPage(1));
        CHECK.due(29, "lastPage(1)", () -> book.lastPage(1));
        CHECK.due(58, "lastPage(2)", () -> book.lastPage(2));
        CHECK.due(59, "firstPage(3)", () -> book.firstPage(3));
        CHECK.due(59, "lastPage(3)", () -> book.lastPage(3));
    }

    /** Promises 23 and 24. */
    private static void heldPages() {
        BookmarkManager book = Books.with("C10;C20;C59", "R0:1;E9:1;E10:1;R19:1;R15:1;E59:1");
        int[] held = {2, 3, 0, 1};
        for (int chapter = 0; chapter < held.length; chapter++) {
            int index = chapter;
            CHECK.due(held[index], "heldPages(" + index + ")", () -> book.heldPages(index));
            CHECK.due(held[index], "heldPagesByMarks(" + index + ")", () -> book.heldPagesByMarks(index));
        }
    }

    /** Promises 25 to 29. */
    private static void weights() {
        BookmarkManager book = Books.with("C10;C20", "R0:6;E9:2;E10:3;R19:4;R45:9");
        int[] own = {8, 7, 9};
        int[] favour = {13, 15, 10};
        int[] against = {11, 9, 14};
        for (int chapter = 0; chapter < own.length; chapter++) {
            int index = chapter;
            CHECK.due(own[index], "chapterWeight(" + index + ")", () -> book.chapterWeight(index));
            CHECK.due(favour[index], "weightInFavour(" + index + ")", () -> book.weightInFavour(index));
            CHECK.due(against[index], "weightAgainst(" + index + ")", () -> book.weightAgainst(index));
            CHECK.due(against[index], "weightAgainstByTotal(" + index + ")", () -> book.weightAgainstByTotal(index));
            CHECK.due(index < 2, "wouldDissolve(" + index + ")", () -> book.wouldDissolve(index));
        }
        Books.run(book, "E50:2");
        CHECK.due(false, "wouldDissolve(0) with 13 to 13", () -> book.wouldDissolve(0));
        CHECK.due(0, "asking is not voting", book::votesHeld);
    }

    private static void onlyChapter() {
        BookmarkManager book = Books.with("R0:6;E9:2");
        CHECK.due(0, "weightInFavour(0) of the only chapter", () -> book.weightInFavour(0));
        CHECK.due(8, "weightAgainst(0) of the only chapter", () -> book.weightAgainst(0));
        CHECK.due(false, "wouldDissolve(0) of the only chapter", () -> book.wouldDissolve(0));
        CHECK.due("- - -", "wouldDissolve does not reject", () -> Books.rejection(book));
        CHECK.due(false, "wouldDissolve(0) without marks", () -> new BookmarkManager().wouldDissolve(0));
    }

    /** Promise 30. */
    private static void heaviest() {
        CHECK.due(0, "heaviestChapter() of a new book", () -> new BookmarkManager().heaviestChapter());
        BookmarkManager book = Books.with("C10;C20");
        CHECK.due(0, "heaviestChapter() without marks", book::heaviestChapter);
        Books.run(book, "E15:3");
        CHECK.due(1, "heaviestChapter() with one mark", book::heaviestChapter);
        Books.run(book, "R59:3");
        CHECK.due(1, "the lowest index of two", book::heaviestChapter);
        Books.run(book, "R58:1");
        CHECK.due(2, "the last chapter", book::heaviestChapter);
        Books.run(book, "E0:4");
        CHECK.due(0, "the first chapter", book::heaviestChapter);
    }

    private static void noSuchChapter() {
        BookmarkManager book = Books.with("C10");
        for (int chapter : new int[] {-1, 2, 8, Integer.MAX_VALUE, Integer.MIN_VALUE}) {
            String index = "(" + chapter + ")";
            CHECK.thrown(NO_SUCH, "voteToDissolve" + index, () -> book.voteToDissolve(chapter));
            CHECK.thrown(NO_SUCH, "firstPage" + index, () -> book.firstPage(chapter));
            CHECK.thrown(NO_SUCH, "lastPage" + index, () -> book.lastPage(chapter));
            CHECK.thrown(NO_SUCH, "heldPages" + index, () -> book.heldPages(chapter));
            CHECK.thrown(NO_SUCH, "heldPagesByMarks" + index, () -> book.heldPagesByMarks(chapter));
            CHECK.thrown(NO_SUCH, "chapterWeight" + index, () -> book.chapterWeight(chapter));
            CHECK.thrown(NO_SUCH, "weightInFavour" + index, () -> book.weightInFavour(chapter));
            CHECK.thrown(NO_SUCH, "weightAgainst" + index, () -> book.weightAgainst(chapter));
            CHECK.thrown(NO_SUCH, "weightAgainstByTotal" + index, () -> book.weightAgainstByTotal(chapter));
            CHECK.thrown(NO_SUCH, "wouldDissolve" + index, () -> book.wouldDissolve(chapter));
        }
    }
}
