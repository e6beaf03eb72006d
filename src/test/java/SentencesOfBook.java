/** The terms "Book", "Marks", "Reader" and "Further rules", and the number of calls that an object takes. */
final class SentencesOfBook {
    private static final Class<IndexOutOfBoundsException> NO_SUCH = IndexOutOfBoundsException.class;
    private static final Class<IllegalStateException> NOT_ACCEPTED = IllegalStateException.class;
    private static final int MIN = Integer.MIN_VALUE;
    private static final int MAX = Integer.MAX_VALUE;

    private SentencesOfBook() {
    }

    @Sentence(of = "What it is",
        says = "An object is used for at most 512 calls after it has been made; what later calls answer is free.")
    static void calls(Check check) {
        BookmarkManager ids = new BookmarkManager();
        for (int mark = 0; mark < 255; mark++) {
            ids.addDogEar(0, 1);
            ids.removeMark(mark);
        }
        check.due(255, "call 511, addDogEar(59, 9)", () -> ids.addDogEar(59, 9));
        check.due(255, "call 512, markOn(59)", () -> ids.markOn(59));
        BookmarkManager votes = new BookmarkManager();
        votes.addRibbon(0, 1);
        for (int vote = 0; vote < 255; vote++) {
            votes.startChapter(30);
            votes.voteToDissolve(1);
        }
        check.due(255, "call 512, motionsCarried()", votes::motionsCarried);
        BookmarkManager reader = new BookmarkManager();
        for (int call = 1; call <= 511; call++) {
            reader.turnPages(1, call % 2 == 1);
        }
        check.due(1, "call 512, currentPage()", reader::currentPage);
        BookmarkManager changes = new BookmarkManager();
        for (int call = 1; call <= 511; call++) {
            changes.turnPages(1, call % 2 == 1);
        }
        check.due(7, "call 512, undo()", changes::undo);
    }

    // ---- Book

    @Sentence(of = "Terms, Book", says = "The book has 60 pages, numbered from 0 to 59.")
    static void pages(Check check) {
        BookmarkManager book = new BookmarkManager();
        for (int page = 0; page < 60; page++) {
            int index = page;
            check.due(false, "isHeld(" + page + ")", () -> book.isHeld(index));
        }
        Refusal.refused(check, () -> Books.settled("R0:1;R59:1"), NO_SUCH, "isHeld", BookmarkManager::isHeld, -1, 60, MIN, MAX);
        check.due(0, "firstPage(0)", () -> book.firstPage(0));
        check.due(59, "lastPage(0)", () -> book.lastPage(0));
        check.due(3, "the reader comes to page 59", () -> Books.run(book, "T20;T20;T19"));
        Refusal.rejected(check, () -> Books.settled("T20;T20;T19"), "9 59 -", "turnPages(1, true) on page 59",
            at -> at.turnPages(1, true));
    }

    @Sentence(of = "Terms, Book",
        says = "It is divided into chapters, which are numbered from 0 in the order of their pages; every page belongs to one chapter.")
    static void chapters(Check check) {
        BookmarkManager book = Books.with("C59;C30;C1;C31");
        check.due(5, "chapterCount()", book::chapterCount);
        int[] firsts = {0, 1, 30, 31, 59};
        int[] lasts = {0, 29, 30, 58, 59};
        for (int chapter = 0; chapter < 5; chapter++) {
            int index = chapter;
            check.due(firsts[index], "firstPage(" + index + ")", () -> book.firstPage(index));
            check.due(lasts[index], "lastPage(" + index + ")", () -> book.lastPage(index));
            for (int page = firsts[index]; page <= lasts[index]; page++) {
                int member = page;
                check.due(index, "chapterOf(" + page + ")", () -> book.chapterOf(member));
            }
        }
        Refusal.refused(check, () -> Books.settled("C59;C30;C1;C31"), NO_SUCH, "firstPage", BookmarkManager::firstPage, -1, 5);
    }

    @Sentence(of = "Terms, Book", says = "At first there is one chapter with all pages.")
    static void firstChapter(Check check) {
        BookmarkManager book = new BookmarkManager();
        check.due(1, "chapterCount()", book::chapterCount);
        check.due(0, "firstPage(0)", () -> book.firstPage(0));
        check.due(59, "lastPage(0)", () -> book.lastPage(0));
        check.due(0, "chapterOf(0)", () -> book.chapterOf(0));
        check.due(0, "chapterOf(59)", () -> book.chapterOf(59));
        Refusal.refused(check, BookmarkManager::new, NO_SUCH, "lastPage", BookmarkManager::lastPage, 1, -1);
    }

    @Sentence(of = "Terms, Book", says = "There are at most 8 chapters.")
    static void mostChapters(Check check) {
        BookmarkManager book = Books.with("C1;C2;C3;C4;C5;C6;R0:1");
        check.due(7, "startChapter(58), the 8th chapter", () -> book.startChapter(58));
        check.due(8, "chapterCount()", book::chapterCount);
        check.due(59, "lastPage(7)", () -> book.lastPage(7));
        Refusal.rejected(check, () -> Books.settled("C1;C2;C3;C4;C5;C6;C58"), "6 8 -", "startChapter(59), a 9th chapter",
            at -> at.startChapter(59));
        check.due(true, "voteToDissolve(6)", () -> book.voteToDissolve(6));
        check.due(7, "startChapter(59), the 8th chapter again", () -> book.startChapter(59));
        check.due(8, "chapterCount()", book::chapterCount);
    }

    // ---- Marks

    @Sentence(of = "Terms, Marks", says = "There are at most 12 marks: ribbons and dog ears.")
    static void mostMarks(Check check) {
        BookmarkManager ears = Books.with("E0:1;E1:1;E2:1;E3:1;E4:1;E5:1;E6:1;E7:1;E8:1;E9:1;E10:1");
        check.due(11, "addDogEar(59, 1), the 12th mark", () -> ears.addDogEar(59, 1));
        check.due(12, "markCount()", ears::markCount);
        check.due(11, "markByPage(11)", () -> ears.markByPage(11));
        BookmarkManager mixed = Books.with("R0:1;R1:1;R2:1;R3:1;E4:1;E5:1;E6:1;E7:1;E8:1;E9:1;E10:1");
        check.due(11, "addRibbon(59, 1), the 12th mark", () -> mixed.addRibbon(59, 1));
        Refusal.rejected(check, () -> twelve("E"), "1 12 -", "addDogEar(58, 1), a 13th mark", at -> at.addDogEar(58, 1));
        Refusal.rejected(check, () -> twelve("E"), "1 12 -", "addRibbon(58, 1), a 13th mark", at -> at.addRibbon(58, 1));
        Refusal.rejected(check, () -> twelve("R"), "1 12 -", "addDogEar(58, 1), a 13th mark", at -> at.addDogEar(58, 1));
        mixed.removeMark(4);
        check.due(12, "addDogEar(58, 1), the 12th mark again", () -> mixed.addDogEar(58, 1));
    }

    /** Five ribbons or dog ears on the pages 0 to 4, and seven dog ears. */
    private static BookmarkManager twelve(String kind) {
        StringBuilder five = new StringBuilder();
        for (int page = 0; page < 5; page++) {
            five.append(page == 0 ? "" : ";").append(kind).append(page).append(":1");
        }
        return Books.settled(five.toString(), "E5:1;E6:1;E7:1;E8:1;E9:1;E10:1;E59:1");
    }

    @Sentence(of = "Terms, Marks",
        says = "The first mark that is added gets the id 0, and every further one gets the next greater id, also if earlier marks have been removed.")
    static void ids(Check check) {
        BookmarkManager book = new BookmarkManager();
        check.due(0, "the first mark", () -> book.addDogEar(9, 1));
        check.due(1, "the second mark", () -> book.addRibbon(3, 1));
        book.removeMark(1);
        check.due(2, "after the latest mark is removed", () -> book.addRibbon(3, 1));
        book.removeMark(0);
        book.removeMark(2);
        check.due(3, "after all marks are removed", () -> book.addDogEar(1, 1));
        Books.run(book, "T1;B1;T1;B1;T1");
        check.due(4, "after the only mark has fallen off", () -> book.addRibbon(1, 1));
        Books.run(book, "C30;E40:1");
        check.due(false, "voteToDissolve(1) with 1 to 1", () -> book.voteToDissolve(1));
        book.removeMark(5);
        check.due(6, "in another chapter", () -> book.addDogEar(41, 1));
        check.due(7, "with a greater weight", () -> book.addRibbon(0, 9));
        check.due(true, "voteToDissolve(1) with 10 to 1", () -> book.voteToDissolve(1));
        check.due(8, "after a vote has removed the latest mark", () -> book.addDogEar(59, 1));
    }

    @Sentence(of = "Terms, Marks", says = "A mark is on one page, which is then held, and has a weight.")
    static void pageOfMark(Check check) {
        BookmarkManager book = Books.with("R0:1;E59:9");
        for (int page = 0; page < 60; page++) {
            int index = page;
            check.due(page == 0 || page == 59, "isHeld(" + page + ")", () -> book.isHeld(index));
        }
        check.due(0, "pageOf(0)", () -> book.pageOf(0));
        check.due(59, "pageOf(1)", () -> book.pageOf(1));
        check.due(1, "weightOf(0)", () -> book.weightOf(0));
        check.due(9, "weightOf(1)", () -> book.weightOf(1));
        book.moveRibbon(0, 58);
        check.due(false, "isHeld(0), from where the mark was moved", () -> book.isHeld(0));
        check.due(true, "isHeld(58), to where it was moved", () -> book.isHeld(58));
        book.removeMark(1);
        check.due(false, "isHeld(59), whose mark was removed", () -> book.isHeld(59));
    }

    @Sentence(of = "Terms, Marks", says = "A mark is in the chapter of its page.")
    static void chapterOfMark(Check check) {
        BookmarkManager book = Books.with("C10;C20", "E9:1;E10:2;R19:4;E20:8");
        check.due("1 6 8", "the weights, with marks on the first and the last page of a chapter", () -> weights(book));
        book.startChapter(19);
        check.due("1 2 4 8", "the weights after a chapter is started on the page of a mark", () -> weights(book));
        book.moveRibbon(2, 59);
        check.due("1 2 0 12", "the weights after a mark is moved", () -> weights(book));
    }

    private static String weights(BookmarkManager book) {
        StringBuilder text = new StringBuilder();
        for (int chapter = 0; chapter < book.chapterCount(); chapter++) {
            text.append(chapter == 0 ? "" : " ").append(book.chapterWeight(chapter));
        }
        return text.toString();
    }

    @Sentence(of = "Terms, Marks", says = "There are 5 seats, numbered from 0 to 4; every ribbon has a seat of its own.")
    static void seats(Check check) {
        BookmarkManager book = Books.with("R50:1;R40:1;R30:1;R20:1");
        check.due(4, "addRibbon(10, 1), in the last seat", () -> book.addRibbon(10, 1));
        for (int seat = 0; seat < 5; seat++) {
            int index = seat;
            check.due(index, "seatOf(" + index + ")", () -> book.seatOf(index));
            check.due(index, "ribbonIn(" + index + ")", () -> book.ribbonIn(index));
        }
        Refusal.rejected(check, () -> Books.settled("R50:1;R40:1;R30:1;R20:1;R10:1"), "2 5 -", "addRibbon(0, 1), a 6th ribbon",
            at -> at.addRibbon(0, 1));
        Refusal.refused(check, () -> Books.settled("R50:1;R40:1;R30:1;R20:1;R10:1"), NO_SUCH, "ribbonIn",
            BookmarkManager::ribbonIn, -1, 5, MIN, MAX);
    }

    @Sentence(of = "Terms, Marks", says = "A dog ear has a wear, which is 0 at first.")
    static void firstWear(Check check) {
        BookmarkManager book = new BookmarkManager();
        book.addDogEar(0, 1);
        check.due(0, "wearOf(0), on the page of the reader", () -> book.wearOf(0));
        Books.run(book, "E5:1;T9;B9");
        check.due(1, "wearOf(0), after the reader came back to it", () -> book.wearOf(0));
        check.due(2, "wearOf(1)", () -> book.wearOf(1));
        Books.run(book, "X1;E5:1");
        check.due(0, "wearOf(2), on the page where a worn dog ear was", () -> book.wearOf(2));
    }

    // ---- Reader

    @Sentence(of = "Terms, Reader", says = "The reader is on page 0 at first.")
    static void firstPageOfReader(Check check) {
        check.due(0, "currentPage()", () -> new BookmarkManager().currentPage());
        check.due(0, "turnPages(1, true)", () -> new BookmarkManager().turnPages(1, true));
        Refusal.rejected(check, BookmarkManager::new, "9 0 -", "turnPages(1, false)", at -> at.turnPages(1, false));
    }

    @Sentence(of = "Terms, Reader", says = "When the reader turns pages, the page of the reader changes by the count.")
    static void pageOfReader(Check check) {
        BookmarkManager book = new BookmarkManager();
        readerOn(check, book, 1, true, 1);
        readerOn(check, book, 20, true, 21);
        readerOn(check, book, 20, true, 41);
        readerOn(check, book, 18, true, 59);
        readerOn(check, book, 1, false, 58);
        readerOn(check, book, 20, false, 38);
        readerOn(check, book, 19, false, 19);
        readerOn(check, book, 19, false, 0);
    }

    private static void readerOn(Check check, BookmarkManager book, int count, boolean forward, int want) {
        book.turnPages(count, forward);
        check.due(want, "currentPage() after turnPages(" + count + ", " + forward + ")", book::currentPage);
    }

    @Sentence(of = "Terms, Reader",
        says = "Every dog ear on the pages that the reader comes to, from the first page after or before the current one to the new current page, gets its wear increased by 1, and falls off if its wear is 3 then: it is removed.")
    static void wear(Check check) {
        BookmarkManager book = Books.with("T10", "E11:1;E15:1;E16:1;E9:1;E5:1;E4:1;R12:1;R8:1");
        book.turnPages(5, true);
        check.due("0 0 0 0 1 0 1 0", "forward: the first page, the new one, and not the one behind it", () -> wears(book));
        Books.run(book, "X0;X1;X2;B5");
        check.due(10, "currentPage()", book::currentPage);
        book.turnPages(5, false);
        check.due("0 1 0 1 0", "backward: the first page, the new one, and not the one before it", () -> wears(book));
        BookmarkManager worn = Books.with("E1:1", "T1;B1;T1;B1");
        check.due(2, "wearOf(0)", () -> worn.wearOf(0));
        check.due(1, "turnPages(1, true): its wear is 3 then", () -> worn.turnPages(1, true));
        check.due(0, "markCount()", worn::markCount);
        check.due(false, "isHeld(1)", () -> worn.isHeld(1));
        Refusal.refused(check, () -> Books.settled("E1:1", "T1;B1;T1;B1;T1"), NO_SUCH, "wearOf of the dog ear that fell off",
            at -> at.wearOf(0));
        BookmarkManager last = Books.with("E58:1;E59:1;E57:1", "T20;T20;T17", "T2");
        check.due("1 1 1", "on the last page of the book", () -> wears(last));
        BookmarkManager first = Books.with("E0:1;E1:1", "T2;B2");
        check.due("1 2", "on the first page of the book", () -> wears(first));
    }

    /** The wear of each mark, in the order of pages. */
    private static String wears(BookmarkManager book) {
        StringBuilder text = new StringBuilder();
        for (int position = 0; position < book.markCount(); position++) {
            text.append(position == 0 ? "" : " ").append(book.wearOf(book.markByPage(position)));
        }
        return text.toString();
    }

    @Sentence(of = "Terms, Reader", says = "The page that the reader leaves does not count.")
    static void pageLeft(Check check) {
        BookmarkManager book = Books.with("T10", "E10:1");
        book.turnPages(1, true);
        check.due(0, "wearOf(0) after turnPages(1, true)", () -> book.wearOf(0));
        book.turnPages(1, false);
        check.due(1, "wearOf(0) on the page that the reader comes to", () -> book.wearOf(0));
        book.turnPages(10, false);
        check.due(1, "wearOf(0) after turnPages(10, false)", () -> book.wearOf(0));
        BookmarkManager worn = Books.with("E1:1", "T1;B1;T1");
        check.due(0, "turnPages(1, true) from a dog ear of wear 2", () -> worn.turnPages(1, true));
        check.due(2, "wearOf(0)", () -> worn.wearOf(0));
        BookmarkManager start = Books.with("E0:1");
        start.turnPages(20, true);
        check.due(0, "wearOf(0) on page 0", () -> start.wearOf(0));
    }

    // ---- Further rules

    @Sentence(of = "Terms, Further rules", says = "Dog ears that are removed by a vote do not count as fallen dog ears.")
    static void votedOut(Check check) {
        BookmarkManager book = Books.with("R50:9;E1:1;E2:1;E4:1;C20", "T3;B3;T3");
        check.due(2, "fallenEars() ahead of the vote", book::fallenEars);
        check.due(2, "markCount() with one dog ear", book::markCount);
        check.due(true, "voteToDissolve(0)", () -> book.voteToDissolve(0));
        check.due(1, "markCount()", book::markCount);
        check.due(2, "fallenEars() after the vote", book::fallenEars);
        BookmarkManager none = Books.with("R50:9;E1:1;E2:1;E4:1;C20", "V0");
        check.due(0, "fallenEars() after a vote alone", none::fallenEars);
    }

    @Sentence(of = "Terms, Further rules",
        says = "A command with a weight of 0 has no syntax error; it fails when it is executed.")
    static void weightOfZero(Check check) {
        for (String input : new String[] {"R5:0", "E5:0", "T1;R5:0", "T1;E5:0;T1", "R5:0;R9:1"}) {
            Refusal.failed(check, () -> Books.with("R9:1", "T3"), NOT_ACCEPTED, "- - -", "-", input);
        }
        check.due(1, "execute() of a ribbon with the weight 1", () -> Books.run(new BookmarkManager(), "R5:1"));
        check.due(1, "execute() of a dog ear with the weight 1", () -> Books.run(new BookmarkManager(), "E5:1"));
        Refusal.failed(check, () -> Books.with("R9:1", "T3"), UnsupportedOperationException.class, "10 0 3", "-", "R9:1;R5:0");
        Refusal.failed(check, () -> Books.with("R9:1", "T3"), IllegalArgumentException.class, "- - -", "5", "R5:0;");
    }

    @Sentence(of = "Terms, Further rules",
        says = "Whether a motion would be carried is also computed for the only chapter of the book.")
    static void motionOnTheOnlyChapter(Check check) {
        check.due(false, "wouldDissolve(0) without marks", () -> new BookmarkManager().wouldDissolve(0));
        BookmarkManager book = Books.with("R0:9;R59:9;E5:1");
        check.due(false, "wouldDissolve(0)", () -> book.wouldDissolve(0));
        check.due("- - -", "it is no rejection", () -> Books.rejection(book));
        BookmarkManager dissolved = Books.with("R0:9;E59:1;C30", "V1");
        check.due(1, "chapterCount()", dissolved::chapterCount);
        check.due(false, "wouldDissolve(0) of the chapter that is left", () -> dissolved.wouldDissolve(0));
    }
}
