/** The term "Votes" and promises 20 and 26 to 29. */
final class SentencesOfVotes {
    private static final String NO_CHAPTER = "Throws `IndexOutOfBoundsException` if there is no such chapter";

    private static final Class<IndexOutOfBoundsException> NO_SUCH = IndexOutOfBoundsException.class;
    private static final int[] NO_CHAPTERS = {-1, 3, Integer.MIN_VALUE, Integer.MAX_VALUE};

    private SentencesOfVotes() {
    }

    /**
     * The chapters start on the pages 0, 10 and 20. Marks: a ribbon of weight 6 on page 0, dog ears of weight 2 on
     * page 9 and of weight 3 on page 10, ribbons of weight 4 on page 19 and of weight 9 on page 20.
     */
    private static BookmarkManager threeChapters() {
        return Books.settled("R0:6;E9:2;E10:3;R19:4;R20:9", "C10;C20");
    }

    /** Five ribbons of weight 9 on the pages 0 to 4, and seven dog ears of weight 9 on the pages 5 to 11. */
    private static BookmarkManager heaviestMarks() {
        return Books.with("R0:9;R1:9;R2:9;R3:9;R4:9", "E5:9;E6:9;E7:9;E8:9;E9:9;E10:9;E11:9");
    }

    // ---- Terms

    @Sentence(of = "Terms, Votes",
        says = "In a vote on a motion to dissolve a chapter, every ribbon that is not in this chapter is in favour, and all other marks are against.")
    static void whoVotesHow(Check check) {
        check.due(true, "a ribbon ahead of the chapter is in favour", () -> Books.with("R9:1;C10").voteToDissolve(1));
        check.due(true, "a ribbon behind the chapter is in favour", () -> Books.with("R10:1;C10").voteToDissolve(0));
        check.due(false, "a ribbon on the first page of the chapter is against", () -> Books.with("R10:1;C10").voteToDissolve(1));
        check.due(false, "a ribbon on the last page of the chapter is against", () -> Books.with("R9:1;C10").voteToDissolve(0));
        check.due(false, "a ribbon of the chapter against one beside it", () -> Books.with("R9:1;R10:1;C10").voteToDissolve(1));
        check.due(false, "a dog ear of the chapter is against", () -> Books.with("R9:1;E10:1;C10").voteToDissolve(1));
        check.due(false, "a dog ear elsewhere is against", () -> Books.with("R9:1;E8:1;C10").voteToDissolve(1));
        check.due(false, "a dog ear elsewhere is not in favour", () -> Books.with("E9:9;C10").voteToDissolve(1));
        BookmarkManager book = threeChapters();
        check.due("0: 13 to 11", "the weights", () -> weights(book, 0));
        check.due("1: 15 to 9", "the weights", () -> weights(book, 1));
        check.due("2: 10 to 14", "the weights", () -> weights(book, 2));
    }

    private static String weights(BookmarkManager book, int chapter) {
        return chapter + ": " + book.weightInFavour(chapter) + " to " + book.weightAgainst(chapter);
    }

    @Sentence(of = "Terms, Votes", says = "The motion is carried if the weight in favour is greater than the weight against.")
    static void greaterWeight(Check check) {
        check.due(true, "5 to 4", () -> Books.with("R0:5;E59:4;C30").voteToDissolve(1));
        check.due(false, "5 to 5", () -> Books.with("R0:5;E59:5;C30").voteToDissolve(1));
        check.due(false, "4 to 5", () -> Books.with("R0:4;E59:5;C30").voteToDissolve(1));
        check.due(true, "1 to 0", () -> Books.with("R0:1;C30").voteToDissolve(1));
        check.due(false, "0 to 0", () -> Books.with("C30").voteToDissolve(1));
        check.due(false, "0 to 1", () -> Books.with("R59:1;C30").voteToDissolve(1));
        check.due(true, "10 to 9, of several marks", () -> Books.with("R0:9;R1:1;E59:5;R58:4;C30").voteToDissolve(1));
        check.due(false, "9 to 9, of several marks", () -> Books.with("R0:8;R1:1;E59:5;R58:4;C30").voteToDissolve(1));
    }

    // ---- Promise 20

    @Sentence(of = "Promise 20", says = "Holds a vote on a motion to dissolve a chapter.")
    static void vote(Check check) {
        BookmarkManager book = Books.with("R0:1;C30;C40");
        book.voteToDissolve(2);
        check.due("0r0*1w0s0 | 0 30 | reader 0 votes 1 1 fallen 0", "a motion that is carried", () -> Books.state(book));
        book.voteToDissolve(0);
        check.due("0r0*1w0s0 | 0 30 | reader 0 votes 2 1 fallen 0", "one that is not", () -> Books.state(book));
        book.voteToDissolve(1);
        check.due("0r0*1w0s0 | 0 | reader 0 votes 3 2 fallen 0", "one with two chapters", () -> Books.state(book));
    }

    @Sentence(of = "Promise 20",
        says = "If the motion is carried, all dog ears in the chapter are removed, and the chapter is joined with the previous chapter; the first chapter is joined with the next one.")
    static void dissolved(Check check) {
        BookmarkManager middle = Books.with("R5:9;E9:1;E10:1;R15:1;E19:1;E20:1;C10;C20;C30", "V1");
        check.due("0r5*9w0s0 1e9*1w0 3r15*1w0s1 5e20*1w0 | 0 20 30 | reader 0 votes 1 1 fallen 0", "a chapter in the middle",
            () -> Books.state(middle));
        check.due(19, "lastPage(0)", () -> middle.lastPage(0));
        BookmarkManager first = Books.with("R25:9;E0:1;R5:1;E9:1;E10:1;C10;C20", "V0");
        check.due("2r5*1w0s1 4e10*1w0 0r25*9w0s0 | 0 20 | reader 0 votes 1 1 fallen 0", "the first chapter",
            () -> Books.state(first));
        check.due(19, "lastPage(0)", () -> first.lastPage(0));
        BookmarkManager last = Books.with("R5:9;E19:1;E20:1;R30:1;E59:1;C10;C20", "V2");
        check.due("0r5*9w0s0 1e19*1w0 3r30*1w0s1 | 0 10 | reader 0 votes 1 1 fallen 0", "the last chapter",
            () -> Books.state(last));
        check.due(59, "lastPage(1)", () -> last.lastPage(1));
        BookmarkManager two = Books.with("R59:9;E0:1;C30", "V0");
        check.due("0r59*9w0s0 | 0 | reader 0 votes 1 1 fallen 0", "the first of two chapters", () -> Books.state(two));
        BookmarkManager kept = Books.with("R5:1;E20:1;C10", "V1");
        check.due("0r5*1w0s0 1e20*1w0 | 0 10 | reader 0 votes 1 0 fallen 0", "a motion that is not carried",
            () -> Books.state(kept));
    }

    @Sentence(of = "Promise 20", says = "The indices of all later chapters become lower by 1.")
    static void laterIndicesLower(Check check) {
        BookmarkManager book = Books.with("C10;C20;C30;C40;C50;C58;C59", "R0:9");
        book.voteToDissolve(1);
        check.due("0r0*9w0s0 | 0 20 30 40 50 58 59 | reader 0 votes 1 1 fallen 0", "the chapters", () -> Books.state(book));
        check.due(6, "chapterOf(59), the last chapter", () -> book.chapterOf(59));
        check.due(1, "chapterOf(20), the next chapter", () -> book.chapterOf(20));
        check.due(0, "chapterOf(10), of the chapter itself", () -> book.chapterOf(10));
        book.moveRibbon(0, 59);
        book.voteToDissolve(0);
        check.due("0r59*9w0s0 | 0 30 40 50 58 59 | reader 0 votes 2 2 fallen 0", "the chapters", () -> Books.state(book));
        check.due(5, "chapterOf(59), the last chapter", () -> book.chapterOf(59));
        check.due(0, "chapterOf(29), of the next chapter", () -> book.chapterOf(29));
        check.due(1, "chapterOf(30), the one behind it", () -> book.chapterOf(30));
    }

    @Sentence(of = "Promise 20", says = "Returns whether the motion is carried.")
    static void carried(Check check) {
        check.due(true, "voteToDissolve(0) with 13 to 11", () -> threeChapters().voteToDissolve(0));
        check.due(true, "voteToDissolve(1) with 15 to 9", () -> threeChapters().voteToDissolve(1));
        check.due(false, "voteToDissolve(2) with 10 to 14", () -> threeChapters().voteToDissolve(2));
        BookmarkManager book = threeChapters();
        book.addDogEar(59, 2);
        check.due(false, "voteToDissolve(0) with 13 to 13", () -> book.voteToDissolve(0));
    }

    @Sentence(of = "Promise 20", says = NO_CHAPTER)
    static void voteOnNone(Check check) {
        chapters(check, "voteToDissolve", BookmarkManager::voteToDissolve);
        Refusal.refused(check, BookmarkManager::new, NO_SUCH, "voteToDissolve", BookmarkManager::voteToDissolve, 1, -1);
        Refusal.refused(check, SentencesOfVotes::eightChapters, NO_SUCH, "voteToDissolve", BookmarkManager::voteToDissolve, 8);
        Refusal.taken(check, SentencesOfVotes::eightChapters, "voteToDissolve", BookmarkManager::voteToDissolve, 7);
    }

    private static BookmarkManager eightChapters() {
        return Books.settled("C1;C2;C3;C4;C5;C6;C7", "R0:1");
    }

    @Sentence(of = "Promise 20", says = "Throws `UnsupportedOperationException` if the call is rejected with the reason ONLY_CHAPTER")
    static void voteRejected(Check check) {
        Refusal.rejected(check, BookmarkManager::new, "8 0 -", "voteToDissolve(0)", at -> at.voteToDissolve(0));
        Refusal.rejected(check, () -> Books.settled("R0:9;R59:9;E5:1", "T5"), "8 0 -", "voteToDissolve(0) with marks",
            at -> at.voteToDissolve(0));
        Refusal.rejected(check, () -> Books.settled("R0:9;C30", "V1"), "8 0 -", "voteToDissolve(0) after a vote",
            at -> at.voteToDissolve(0));
        Refusal.taken(check, () -> Books.with("C30"), "voteToDissolve", BookmarkManager::voteToDissolve, 0, 1);
    }

    // ---- Promises 26 to 29

    private static void chapters(Check check, String name, Refusal.IntCall call) {
        Refusal.taken(check, SentencesOfVotes::threeChapters, name, call, 0, 2);
        Refusal.refused(check, SentencesOfVotes::threeChapters, NO_SUCH, name, call, NO_CHAPTERS);
        Refusal.taken(check, SentencesOfVotes::eightChapters, name, call, 7);
        Refusal.refused(check, SentencesOfVotes::eightChapters, NO_SUCH, name, call, 8);
        Refusal.refused(check, BookmarkManager::new, NO_SUCH, name, call, 1, -1);
    }

    @Sentence(of = "Promise 26", says = "Returns the weight in favour of a motion to dissolve a chapter.")
    static void favour(Check check) {
        int[] weights = {13, 15, 10};
        for (int chapter = 0; chapter < 3; chapter++) {
            int index = chapter;
            check.due(weights[index], "weightInFavour(" + index + ")", () -> threeChapters().weightInFavour(index));
        }
        check.due(0, "weightInFavour(0) without marks", () -> new BookmarkManager().weightInFavour(0));
        BookmarkManager full = heaviestMarks();
        check.due(0, "weightInFavour(0) of the only chapter", () -> full.weightInFavour(0));
        full.startChapter(5);
        check.due(45, "weightInFavour(1), with all ribbons in the other chapter", () -> full.weightInFavour(1));
        check.due(0, "weightInFavour(0), with all ribbons in the chapter", () -> full.weightInFavour(0));
    }

    @Sentence(of = "Promise 26", says = NO_CHAPTER)
    static void favourOfNone(Check check) {
        chapters(check, "weightInFavour", BookmarkManager::weightInFavour);
    }

    private static void against(Check check, String name, Refusal.IntCall call) {
        int[] weights = {11, 9, 14};
        for (int chapter = 0; chapter < 3; chapter++) {
            int index = chapter;
            check.due(weights[index], name + "(" + index + ")", () -> call.answer(threeChapters(), index));
        }
        check.due(0, name + "(0) without marks", () -> call.answer(new BookmarkManager(), 0));
        BookmarkManager full = heaviestMarks();
        check.due(108, name + "(0) of the only chapter", () -> call.answer(full, 0));
        full.startChapter(5);
        check.due(63, name + "(1), with all ribbons in the other chapter", () -> call.answer(full, 1));
        check.due(108, name + "(0), with all ribbons in the chapter", () -> call.answer(full, 0));
        check.due(0, name + "(1) of ribbons elsewhere", () -> call.answer(Books.with("R0:9;C30"), 1));
    }

    @Sentence(of = "Promise 27", says = "Returns the weight against a motion to dissolve a chapter.")
    static void weightAgainst(Check check) {
        against(check, "weightAgainst", BookmarkManager::weightAgainst);
    }

    @Sentence(of = "Promise 27", says = NO_CHAPTER)
    static void againstOfNone(Check check) {
        chapters(check, "weightAgainst", BookmarkManager::weightAgainst);
    }

    @Sentence(of = "Promise 28",
        says = "Returns the weight against a motion to dissolve a chapter in a second way: the weight of all marks minus the weight in favour.")
    static void weightAgainstByTotal(Check check) {
        against(check, "weightAgainstByTotal", BookmarkManager::weightAgainstByTotal);
    }

    @Sentence(of = "Promise 28", says = NO_CHAPTER)
    static void againstByTotalOfNone(Check check) {
        chapters(check, "weightAgainstByTotal", BookmarkManager::weightAgainstByTotal);
    }

    @Sentence(of = "Promise 29", says = "Tells whether a motion to dissolve a chapter would be carried now.")
    static void wouldDissolve(Check check) {
        check.due(true, "wouldDissolve(0) with 13 to 11", () -> threeChapters().wouldDissolve(0));
        check.due(true, "wouldDissolve(1) with 15 to 9", () -> threeChapters().wouldDissolve(1));
        check.due(false, "wouldDissolve(2) with 10 to 14", () -> threeChapters().wouldDissolve(2));
        BookmarkManager book = threeChapters();
        String before = Books.state(book);
        book.wouldDissolve(0);
        check.due(before, "the state after wouldDissolve(0)", () -> Books.state(book));
        check.due(2, "undoCount() after wouldDissolve(0)", book::undoCount);
        book.addDogEar(59, 1);
        check.due(true, "wouldDissolve(0) with 13 to 12", () -> book.wouldDissolve(0));
        book.addDogEar(58, 1);
        check.due(false, "wouldDissolve(0) with 13 to 13", () -> book.wouldDissolve(0));
        check.due(false, "wouldDissolve(1) with 0 to 0", () -> Books.with("C30").wouldDissolve(1));
        check.due(true, "wouldDissolve(1) with 1 to 0", () -> Books.with("R0:1;C30").wouldDissolve(1));
    }

    @Sentence(of = "Promise 29", says = "It does not matter whether the vote would be rejected.")
    static void wouldDissolveTheOnlyChapter(Check check) {
        BookmarkManager book = Books.with("R0:9;R59:9;E5:1");
        check.due(false, "wouldDissolve(0) of the only chapter", () -> book.wouldDissolve(0));
        check.due("- - -", "the rejection", () -> Books.rejection(book));
        check.due(false, "wouldDissolve(0) of a new book", () -> new BookmarkManager().wouldDissolve(0));
        check.due("9 0 -", "an earlier rejection stays", () -> {
            BookmarkManager settled = Books.settled("R0:9", "T5");
            settled.wouldDissolve(0);
            return Books.rejection(settled);
        });
    }

    @Sentence(of = "Promise 29", says = NO_CHAPTER)
    static void wouldDissolveNone(Check check) {
        chapters(check, "wouldDissolve", BookmarkManager::wouldDissolve);
    }
}
