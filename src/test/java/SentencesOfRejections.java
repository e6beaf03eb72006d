import java.util.function.Consumer;
import java.util.function.Supplier;

/** The term "Rejections", and the constants. */
final class SentencesOfRejections {
    private static final Class<UnsupportedOperationException> REJECTED = UnsupportedOperationException.class;

    private SentencesOfRejections() {
    }

    /** Marks 0 to 4 are ribbons on the pages 0 to 4, mark 5 is a dog ear on page 59. */
    private static BookmarkManager fiveRibbons() {
        return Books.settled("R0:1;R1:1;R2:1;R3:1;R4:1", "E59:1");
    }

    /** Marks 0 to 4 are ribbons on the pages 0 to 4, marks 5 to 11 are dog ears on the pages 53 to 59. */
    private static BookmarkManager twelveMarks() {
        return Books.settled("R0:1;R1:1;R2:1;R3:1;R4:1", "E53:1;E54:1;E55:1;E56:1;E57:1;E58:1;E59:1");
    }

    private static BookmarkManager twelveEars() {
        return Books.settled("E0:1;E1:1;E2:1;E3:1;E4:1", "E53:1;E54:1;E55:1;E56:1;E57:1;E58:1;E59:1");
    }

    /** Mark 0 is a ribbon on page 20, marks 1 and 2 are dog ears on the pages 30 and 40. */
    private static BookmarkManager threeMarks() {
        return Books.settled("R20:5;E30:1", "E40:1");
    }

    private static BookmarkManager eightChapters() {
        return Books.settled("C7;C6;C5;C4;C3", "C2;C1");
    }

    private static void rejected(Check check, Supplier<BookmarkManager> setting, String rejection, String name,
            Consumer<BookmarkManager> call) {
        BookmarkManager book = setting.get();
        check.compare(REJECTED.getName(), name, Check.answer(() -> {
            call.accept(book);
            return "an answer";
        }));
        check.due(rejection, "the rejection of " + name, () -> Books.rejection(book));
    }

    @Sentence(of = "Terms, Rejections",
        says = "A call is rejected for the first reason that applies, in the order in which its method names them.")
    static void firstReason(Check check) {
        rejected(check, SentencesOfRejections::twelveMarks, "1 12 -", "addRibbon(0, 1): all three reasons", at -> at.addRibbon(0, 1));
        rejected(check, SentencesOfRejections::twelveMarks, "1 12 -", "addRibbon(30, 1): the first two", at -> at.addRibbon(30, 1));
        rejected(check, SentencesOfRejections::twelveEars, "1 12 -", "addRibbon(0, 1): the first and the third",
            at -> at.addRibbon(0, 1));
        rejected(check, SentencesOfRejections::fiveRibbons, "2 5 -", "addRibbon(59, 1): the last two", at -> at.addRibbon(59, 1));
        rejected(check, SentencesOfRejections::threeMarks, "3 1 -", "addRibbon(30, 1): the last", at -> at.addRibbon(30, 1));
        rejected(check, SentencesOfRejections::twelveEars, "1 12 -", "addDogEar(59, 1): both reasons", at -> at.addDogEar(59, 1));
        rejected(check, SentencesOfRejections::fiveRibbons, "3 5 -", "addDogEar(59, 1): the last", at -> at.addDogEar(59, 1));
        rejected(check, SentencesOfRejections::threeMarks, "4 1 -", "moveRibbon(1, 20): both reasons", at -> at.moveRibbon(1, 20));
        rejected(check, SentencesOfRejections::threeMarks, "4 1 -", "moveRibbon(1, 30): both reasons", at -> at.moveRibbon(1, 30));
        rejected(check, SentencesOfRejections::threeMarks, "4 2 -", "swapSeats(2, 1): the first argument", at -> at.swapSeats(2, 1));
        rejected(check, SentencesOfRejections::threeMarks, "4 1 -", "swapSeats(1, 2): the first argument", at -> at.swapSeats(1, 2));
        rejected(check, SentencesOfRejections::threeMarks, "4 2 -", "swapSeats(0, 2): the second argument", at -> at.swapSeats(0, 2));
        rejected(check, SentencesOfRejections::threeMarks, "4 2 -", "swapSeats(2, 2): a dog ear and the same", at -> at.swapSeats(2, 2));
        rejected(check, SentencesOfRejections::eightChapters, "6 8 -", "startChapter(7): both reasons", at -> at.startChapter(7));
        rejected(check, () -> Books.with("C7"), "7 1 -", "startChapter(7): the last", at -> at.startChapter(7));
    }

    @Sentence(of = "Terms, Rejections", says = "The detail of MARK_LIMIT, NO_FREE_SEAT and CHAPTER_LIMIT is the limit: 12, 5 or 8.")
    static void detailOfLimits(Check check) {
        rejected(check, SentencesOfRejections::twelveEars, "1 12 -", "addRibbon(30, 1)", at -> at.addRibbon(30, 1));
        rejected(check, SentencesOfRejections::twelveMarks, "1 12 -", "addDogEar(30, 1)", at -> at.addDogEar(30, 1));
        rejected(check, SentencesOfRejections::fiveRibbons, "2 5 -", "addRibbon(30, 1)", at -> at.addRibbon(30, 1));
        rejected(check, SentencesOfRejections::eightChapters, "6 8 -", "startChapter(30)", at -> at.startChapter(30));
    }

    @Sentence(of = "Terms, Rejections",
        says = "The detail of PAGE_HELD is the id of the mark on the page, also if it is the moved ribbon itself.")
    static void detailOfPageHeld(Check check) {
        rejected(check, SentencesOfRejections::fiveRibbons, "3 0 -", "addDogEar(0, 1)", at -> at.addDogEar(0, 1));
        rejected(check, SentencesOfRejections::fiveRibbons, "3 5 -", "addDogEar(59, 1)", at -> at.addDogEar(59, 1));
        rejected(check, SentencesOfRejections::threeMarks, "3 2 -", "addRibbon(40, 1)", at -> at.addRibbon(40, 1));
        rejected(check, SentencesOfRejections::threeMarks, "3 1 -", "moveRibbon(0, 30)", at -> at.moveRibbon(0, 30));
        rejected(check, SentencesOfRejections::threeMarks, "3 0 -", "moveRibbon(0, 20), to its own page", at -> at.moveRibbon(0, 20));
        rejected(check, SentencesOfRejections::fiveRibbons, "3 4 -", "moveRibbon(4, 4), to its own page", at -> at.moveRibbon(4, 4));
        rejected(check, SentencesOfRejections::fiveRibbons, "3 3 -", "moveRibbon(4, 3)", at -> at.moveRibbon(4, 3));
    }

    @Sentence(of = "Terms, Rejections", says = "The detail of NOT_A_RIBBON and SAME_RIBBON is the id of the mark.")
    static void detailOfMarks(Check check) {
        rejected(check, SentencesOfRejections::threeMarks, "4 1 -", "moveRibbon(1, 0)", at -> at.moveRibbon(1, 0));
        rejected(check, SentencesOfRejections::threeMarks, "4 2 -", "moveRibbon(2, 59)", at -> at.moveRibbon(2, 59));
        rejected(check, SentencesOfRejections::threeMarks, "4 1 -", "swapSeats(1, 0)", at -> at.swapSeats(1, 0));
        rejected(check, SentencesOfRejections::threeMarks, "4 1 -", "swapSeats(0, 1)", at -> at.swapSeats(0, 1));
        rejected(check, SentencesOfRejections::threeMarks, "4 2 -", "swapSeats(2, 1)", at -> at.swapSeats(2, 1));
        rejected(check, SentencesOfRejections::threeMarks, "5 0 -", "swapSeats(0, 0)", at -> at.swapSeats(0, 0));
        rejected(check, SentencesOfRejections::fiveRibbons, "5 4 -", "swapSeats(4, 4)", at -> at.swapSeats(4, 4));
        rejected(check, () -> Books.with("E0:1;R9:1"), "4 0 -", "swapSeats(0, 1) with a dog ear of the id 0", at -> at.swapSeats(0, 1));
    }

    @Sentence(of = "Terms, Rejections", says = "The detail of CHAPTER_START is the index of the chapter that starts on the page.")
    static void detailOfChapterStart(Check check) {
        rejected(check, BookmarkManager::new, "7 0 -", "startChapter(0)", at -> at.startChapter(0));
        rejected(check, () -> Books.with("C59"), "7 1 -", "startChapter(59)", at -> at.startChapter(59));
        rejected(check, () -> Books.with("C9;C8;C7;C6;C5;C4"), "7 6 -", "startChapter(9) with 7 chapters", at -> at.startChapter(9));
        rejected(check, () -> Books.with("C9;C8;C7;C6;C5;C4"), "7 1 -", "startChapter(4) with 7 chapters", at -> at.startChapter(4));
        rejected(check, () -> Books.with("C9;C8;C7;C6;C5;C4"), "7 0 -", "startChapter(0) with 7 chapters", at -> at.startChapter(0));
    }

    @Sentence(of = "Terms, Rejections", says = "The detail of ONLY_CHAPTER is 0.")
    static void detailOfOnlyChapter(Check check) {
        rejected(check, BookmarkManager::new, "8 0 -", "voteToDissolve(0)", at -> at.voteToDissolve(0));
        rejected(check, () -> Books.with("R59:9;E5:1;T20"), "8 0 -", "voteToDissolve(0) with marks", at -> at.voteToDissolve(0));
        rejected(check, () -> Books.with("R59:9;C30;V0"), "8 0 -", "voteToDissolve(0) after a vote", at -> at.voteToDissolve(0));
    }

    @Sentence(of = "Terms, Rejections", says = "The detail of BOOK_END is the current page.")
    static void detailOfBookEnd(Check check) {
        rejected(check, BookmarkManager::new, "9 0 -", "turnPages(1, false) on page 0", at -> at.turnPages(1, false));
        rejected(check, () -> Books.with("T19"), "9 19 -", "turnPages(20, false) on page 19", at -> at.turnPages(20, false));
        rejected(check, () -> Books.with("T20;T20"), "9 40 -", "turnPages(20, true) on page 40", at -> at.turnPages(20, true));
        rejected(check, () -> Books.with("T20;T20;T19"), "9 59 -", "turnPages(1, true) on page 59", at -> at.turnPages(1, true));
    }

    @Sentence(of = "Terms, Rejections",
        says = "The detail of COMMAND_REJECTED is the number of the rejected command, from 0; the reason with which the method of this command rejects it is its cause.")
    static void detailOfCommandRejected(Check check) {
        command(check, "R0:1;R1:1;R2:1;R3:1;R4:1;E5:1;E6:1;E7:1;E8:1;E9:1;E59:1;X0", "- - -");
        command(check, "R9:1;R1:1;R2:1;R3:1;R4:1;R5:1", "10 5 2");
        command(check, "E9:1;R9:1", "10 1 3");
        command(check, "E9:1;M0:8", "10 1 4");
        command(check, "R9:1;S0,0", "10 1 5");
        command(check, "C1;C2;C3;C4;C5;C6;C7;C8", "10 7 6");
        command(check, "C0;B1", "10 0 7");
        command(check, "V0;C0", "10 0 8");
        command(check, "T1;".repeat(19) + "V0", "10 19 8");
        command(check, "B1", "10 0 9");
        BookmarkManager full = Books.with("E0:1;E1:1;E2:1;E3:1;E4:1;E5:1;E6:1;E7:1;E8:1;E9:1;E10:1");
        check.due(REJECTED.getName(), "execute() of T1;E11:1;E12:1", () -> Books.run(full, "T1;E11:1;E12:1"));
        check.due("10 2 1", "its rejection", () -> Books.rejection(full));
    }

    private static void command(Check check, String input, String rejection) {
        BookmarkManager book = new BookmarkManager();
        Object answer = Check.answer(() -> Books.run(book, input));
        boolean fails = !rejection.equals("- - -");
        check.compare(fails, "a rejection of \"" + input + "\"", answer.equals(REJECTED.getName()));
        check.due(rejection, "what is told of \"" + input + "\"", () -> Books.rejection(book));
    }

    @Sentence(of = "Terms, Rejections", says = "A rejected call changes nothing but the latest rejection.")
    static void nothingButTheRejection(Check check) {
        Refusal.rejected(check, SentencesOfRejections::twelveMarks, "1 12 -", "addRibbon(30, 1)", at -> at.addRibbon(30, 1));
        Refusal.rejected(check, SentencesOfRejections::fiveRibbons, "2 5 -", "addRibbon(30, 1)", at -> at.addRibbon(30, 1));
        Refusal.rejected(check, SentencesOfRejections::threeMarks, "3 1 -", "addRibbon(30, 1)", at -> at.addRibbon(30, 1));
        Refusal.rejected(check, SentencesOfRejections::twelveMarks, "1 12 -", "addDogEar(30, 1)", at -> at.addDogEar(30, 1));
        Refusal.rejected(check, SentencesOfRejections::threeMarks, "3 0 -", "addDogEar(20, 1)", at -> at.addDogEar(20, 1));
        Refusal.rejected(check, SentencesOfRejections::threeMarks, "4 2 -", "moveRibbon(2, 0)", at -> at.moveRibbon(2, 0));
        Refusal.rejected(check, SentencesOfRejections::threeMarks, "3 2 -", "moveRibbon(0, 40)", at -> at.moveRibbon(0, 40));
        Refusal.rejected(check, SentencesOfRejections::threeMarks, "4 2 -", "swapSeats(0, 2)", at -> at.swapSeats(0, 2));
        Refusal.rejected(check, SentencesOfRejections::threeMarks, "5 0 -", "swapSeats(0, 0)", at -> at.swapSeats(0, 0));
        Refusal.rejected(check, SentencesOfRejections::eightChapters, "6 8 -", "startChapter(30)", at -> at.startChapter(30));
        Refusal.rejected(check, () -> Books.settled("C9"), "7 1 -", "startChapter(9)", at -> at.startChapter(9));
        Refusal.rejected(check, SentencesOfRejections::threeMarks, "8 0 -", "voteToDissolve(0)", at -> at.voteToDissolve(0));
        Refusal.rejected(check, () -> Books.settled("E2:1;E4:1", "T3"), "9 3 -", "turnPages(4, false)",
            at -> at.turnPages(4, false));
        Refusal.rejected(check, () -> Books.settled("E59:1", "T20;T20;T18"), "9 58 -", "turnPages(2, true)",
            at -> at.turnPages(2, true));
        Refusal.failed(check, () -> Books.with("R5:1;E7:1;C9", "T8"), REJECTED, "10 6 3", "-", "X0;R6:1;V1;B8;C3;T5;E7:1");
    }

    // ---- the constants

    private static void constant(Check check, int want, int constant, Supplier<BookmarkManager> setting,
            Consumer<BookmarkManager> call) {
        check.compare(want, "the constant", constant);
        BookmarkManager book = setting.get();
        check.compare(REJECTED.getName(), "the call with the reason " + want, Check.answer(() -> {
            call.accept(book);
            return "an answer";
        }));
        check.due(constant, "rejectionReason()", book::rejectionReason);
    }

    @Sentence(of = "Terms, constants", says = "`MARK_LIMIT = 1`: Reason: there are 12 marks.")
    static void markLimit(Check check) {
        constant(check, 1, BookmarkManager.MARK_LIMIT, SentencesOfRejections::twelveMarks, at -> at.addDogEar(30, 1));
        constant(check, 1, BookmarkManager.MARK_LIMIT, SentencesOfRejections::twelveEars, at -> at.addRibbon(30, 1));
        BookmarkManager book = twelveMarks();
        book.removeMark(0);
        check.due(12, "addRibbon(30, 1) with 11 marks", () -> book.addRibbon(30, 1));
    }

    @Sentence(of = "Terms, constants", says = "`NO_FREE_SEAT = 2`: Reason: all seats have ribbons.")
    static void noFreeSeat(Check check) {
        constant(check, 2, BookmarkManager.NO_FREE_SEAT, SentencesOfRejections::fiveRibbons, at -> at.addRibbon(30, 1));
        BookmarkManager book = fiveRibbons();
        check.due(6, "addDogEar(30, 1), which needs no seat", () -> book.addDogEar(30, 1));
        book.removeMark(4);
        check.due(7, "addRibbon(31, 1) with one free seat", () -> book.addRibbon(31, 1));
    }

    @Sentence(of = "Terms, constants", says = "`PAGE_HELD = 3`: Reason: there is a mark on the page.")
    static void pageHeld(Check check) {
        constant(check, 3, BookmarkManager.PAGE_HELD, SentencesOfRejections::threeMarks, at -> at.addRibbon(30, 1));
        constant(check, 3, BookmarkManager.PAGE_HELD, SentencesOfRejections::threeMarks, at -> at.addDogEar(20, 1));
        constant(check, 3, BookmarkManager.PAGE_HELD, SentencesOfRejections::threeMarks, at -> at.moveRibbon(0, 40));
        BookmarkManager book = threeMarks();
        check.due(3, "addRibbon(29, 1) beside a mark", () -> book.addRibbon(29, 1));
        check.due(4, "addDogEar(31, 1) beside a mark", () -> book.addDogEar(31, 1));
        check.due(20, "moveRibbon(0, 41) beside a mark", () -> book.moveRibbon(0, 41));
    }

    @Sentence(of = "Terms, constants", says = "`NOT_A_RIBBON = 4`: Reason: the mark is a dog ear.")
    static void notARibbon(Check check) {
        constant(check, 4, BookmarkManager.NOT_A_RIBBON, SentencesOfRejections::threeMarks, at -> at.moveRibbon(1, 0));
        constant(check, 4, BookmarkManager.NOT_A_RIBBON, SentencesOfRejections::threeMarks, at -> at.swapSeats(1, 0));
        constant(check, 4, BookmarkManager.NOT_A_RIBBON, SentencesOfRejections::threeMarks, at -> at.swapSeats(0, 1));
        check.due(20, "moveRibbon(0, 0) of a ribbon", () -> threeMarks().moveRibbon(0, 0));
        check.due(4, "swapSeats(0, 4) of two ribbons", () -> fiveRibbons().swapSeats(0, 4));
    }

    @Sentence(of = "Terms, constants", says = "`SAME_RIBBON = 5`: Reason: both ribbons are the same.")
    static void sameRibbon(Check check) {
        constant(check, 5, BookmarkManager.SAME_RIBBON, SentencesOfRejections::threeMarks, at -> at.swapSeats(0, 0));
        constant(check, 5, BookmarkManager.SAME_RIBBON, SentencesOfRejections::fiveRibbons, at -> at.swapSeats(3, 3));
        check.due(4, "swapSeats(3, 4) of two ribbons", () -> fiveRibbons().swapSeats(3, 4));
    }

    @Sentence(of = "Terms, constants", says = "`CHAPTER_LIMIT = 6`: Reason: there are 8 chapters.")
    static void chapterLimit(Check check) {
        constant(check, 6, BookmarkManager.CHAPTER_LIMIT, SentencesOfRejections::eightChapters, at -> at.startChapter(8));
        BookmarkManager book = eightChapters();
        book.undo();
        check.due(6, "chapterCount() after undo()", book::chapterCount);
        check.due(6, "startChapter(8)", () -> book.startChapter(8));
        check.due(7, "startChapter(9) with 7 chapters", () -> book.startChapter(9));
    }

    @Sentence(of = "Terms, constants", says = "`CHAPTER_START = 7`: Reason: a chapter starts on the page already.")
    static void chapterStart(Check check) {
        constant(check, 7, BookmarkManager.CHAPTER_START, BookmarkManager::new, at -> at.startChapter(0));
        constant(check, 7, BookmarkManager.CHAPTER_START, () -> Books.with("C30"), at -> at.startChapter(30));
        check.due(2, "startChapter(31) beside a start", () -> Books.with("C30").startChapter(31));
        check.due(1, "startChapter(29) beside a start", () -> Books.with("C30").startChapter(29));
        check.due(1, "startChapter(1) beside page 0", () -> new BookmarkManager().startChapter(1));
    }

    @Sentence(of = "Terms, constants", says = "`ONLY_CHAPTER = 8`: Reason: there is one chapter only.")
    static void onlyChapter(Check check) {
        constant(check, 8, BookmarkManager.ONLY_CHAPTER, BookmarkManager::new, at -> at.voteToDissolve(0));
        check.due(false, "voteToDissolve(0) with two chapters", () -> Books.with("C30").voteToDissolve(0));
    }

    @Sentence(of = "Terms, constants", says = "`BOOK_END = 9`: Reason: there are not so many pages.")
    static void bookEnd(Check check) {
        constant(check, 9, BookmarkManager.BOOK_END, BookmarkManager::new, at -> at.turnPages(1, false));
        constant(check, 9, BookmarkManager.BOOK_END, () -> Books.with("T20;T20"), at -> at.turnPages(20, true));
        check.due(0, "turnPages(19, true) on page 40", () -> Books.with("T20;T20").turnPages(19, true));
        check.due(0, "turnPages(20, false) on page 20", () -> Books.with("T20").turnPages(20, false));
    }

    @Sentence(of = "Terms, constants", says = "`COMMAND_REJECTED = 10`: Reason: a command is rejected.")
    static void commandRejected(Check check) {
        constant(check, 10, BookmarkManager.COMMAND_REJECTED, BookmarkManager::new, at -> Books.run(at, "V0"));
        constant(check, 10, BookmarkManager.COMMAND_REJECTED, BookmarkManager::new, at -> Books.run(at, "T1;B1;B1"));
        check.due(2, "execute() of T1;B1", () -> Books.run(new BookmarkManager(), "T1;B1"));
    }
}
