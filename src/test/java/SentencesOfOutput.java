/** Promises 50 to 52: the text output. */
final class SentencesOfOutput {
    private static final Class<IndexOutOfBoundsException> NO_SUCH = IndexOutOfBoundsException.class;
    private static final int MIN = Integer.MIN_VALUE;
    private static final int MAX = Integer.MAX_VALUE;

    private SentencesOfOutput() {
    }

    /** The chapters start on the pages 0, 10, 20 and 59; each chapter but the third has marks on its ends. */
    private static BookmarkManager fourChapters() {
        return Books.settled("E9:2;R0:5;R19:1;E10:9;E12:3;R59:4", "C10;C59;C20");
    }

    // ---- Promise 50

    @Sentence(of = "Promise 50",
        says = "Writes a chapter to the output, in place of the earlier output: its first page, \"-\", its last page, and for each of its marks in the order of pages a space, \"r\" for a ribbon or \"e\" for a dog ear, the page, \"*\" and the weight.")
    static void writeChapter(Check check) {
        BookmarkManager book = fourChapters();
        check.due("0-9 r0*5 e9*2", "the first chapter", () -> written(book, 0));
        check.due("10-19 e10*9 e12*3 r19*1", "the second chapter", () -> written(book, 1));
        check.due("20-58", "a chapter without marks, in place of a longer output", () -> written(book, 2));
        check.due("59-59 r59*4", "a chapter of one page", () -> written(book, 3));
        check.due("0-59", "the chapter of a new book", () -> written(new BookmarkManager(), 0));
        BookmarkManager full = Books.with("C48", "R59:9;R58:8;R57:7;R56:6;R55:5", "E54:4;E53:3;E52:2;E51:1;E50:2;E49:3;E48:4");
        check.due("48-59 e48*4 e49*3 e50*2 e51*1 e52*2 e53*3 e54*4 r55*5 r56*6 r57*7 r58*8 r59*9", "the longest output",
            () -> written(full, 1));
        check.due("0-47", "the shortest one in its place", () -> written(full, 0));
    }

    private static String written(BookmarkManager book, int chapter) {
        book.writeChapter(chapter);
        return Books.wholeOutput(book);
    }

    @Sentence(of = "Promise 50", says = "An example is \"10-19 r12*5 e14*2\".")
    static void example(Check check) {
        check.due("10-19 r12*5 e14*2", "the example", () -> written(Books.with("E14:2;R12:5;E9:1;R20:1;C10;C20"), 1));
    }

    @Sentence(of = "Promise 50", says = "Returns the length of the output.")
    static void lengthOfChapter(Check check) {
        check.due(4, "writeChapter(0) of a new book", () -> new BookmarkManager().writeChapter(0));
        check.due(3, "writeChapter(0), the shortest", () -> Books.with("C1").writeChapter(0));
        check.due(17, "writeChapter(1), the example", () -> Books.with("E14:2;R12:5;C10;C20").writeChapter(1));
        BookmarkManager full = Books.with("C48", "R59:9;R58:8;R57:7;R56:6;R55:5", "E54:4;E53:3;E52:2;E51:1;E50:2;E49:3;E48:4");
        check.due(77, "writeChapter(1), the longest", () -> full.writeChapter(1));
        check.due(4, "writeChapter(0) after it", () -> full.writeChapter(0));
    }

    @Sentence(of = "Promise 50", says = "Throws `IndexOutOfBoundsException` if there is no such chapter")
    static void writeNoChapter(Check check) {
        Refusal.taken(check, SentencesOfOutput::fourChapters, "writeChapter", BookmarkManager::writeChapter, 0, 3);
        Refusal.refused(check, SentencesOfOutput::fourChapters, NO_SUCH, "writeChapter", BookmarkManager::writeChapter, -1, 4, MIN, MAX);
        Refusal.refused(check, BookmarkManager::new, NO_SUCH, "writeChapter", BookmarkManager::writeChapter, -1, 1);
        Refusal.taken(check, () -> Books.with("C1;C2;C3;C4;C5;C6;C7"), "writeChapter", BookmarkManager::writeChapter, 7);
        Refusal.refused(check, () -> Books.with("C1;C2;C3;C4;C5;C6;C7"), NO_SUCH, "writeChapter", BookmarkManager::writeChapter, 8);
    }

    // ---- Promise 51

    @Sentence(of = "Promise 51",
        says = "Writes the seats to the output, in place of the earlier output: for each seat in order the page of its ribbon, or \"-\" if the seat is free, with a comma between two.")
    static void writeSeats(Check check) {
        check.due("-,-,-,-,-", "all seats free", () -> seats(new BookmarkManager()));
        check.due("-,-,-,-,-", "dog ears only", () -> seats(Books.with("E0:1;E59:1")));
        check.due("59,0,-,-,-", "two ribbons", () -> seats(Books.with("R59:1;R0:9")));
        check.due("59,30,9,10,0", "five ribbons", () -> seats(Books.with("R59:1;R30:1;R9:1;R10:1;R0:1")));
        check.due("-,30,9,10,-", "the first and the last seat free", () -> seats(Books.with("R59:1;R30:1;R9:1;R10:1;R0:1", "X0;X4")));
        check.due("0,30,9,10,59", "the first and the last seat exchanged",
            () -> seats(Books.with("R59:1;R30:1;R9:1;R10:1;R0:1", "S0,4")));
        BookmarkManager book = Books.with("R59:1;E30:1;E9:1;E10:1;E0:1");
        book.writeChapter(0);
        check.due("59,-,-,-,-", "in place of a longer output", () -> seats(book));
        check.due("0-59 e0*1 e9*1 e10*1 e30*1 r59*1", "in place of a shorter output", () -> written(book, 0));
    }

    private static String seats(BookmarkManager book) {
        book.writeSeats();
        return Books.wholeOutput(book);
    }

    @Sentence(of = "Promise 51", says = "Returns the length of the output.")
    static void lengthOfSeats(Check check) {
        check.due(9, "writeSeats() of a new book, the shortest", () -> new BookmarkManager().writeSeats());
        check.due(9, "writeSeats() of pages with one digit", () -> Books.with("R0:1;R9:1").writeSeats());
        check.due(14, "writeSeats(), the longest", () -> Books.with("R59:1;R58:1;R57:1;R56:1;R10:1").writeSeats());
        BookmarkManager book = fourChapters();
        book.writeChapter(1);
        check.due(11, "writeSeats() after a longer output", book::writeSeats);
    }

    // ---- Promise 52

    @Sentence(of = "Promise 52", says = "Returns a character of the output.")
    static void outputAt(Check check) {
        BookmarkManager book = fourChapters();
        book.writeChapter(0);
        String text = "0-9 r0*5 e9*2";
        for (int index = 0; index < text.length(); index++) {
            int at = index;
            check.due(text.charAt(index), "outputAt(" + index + ")", () -> book.outputAt(at));
        }
        book.removeMark(1);
        check.due('5', "outputAt(7) after the ribbon is removed", () -> book.outputAt(7));
    }

    @Sentence(of = "Promise 52", says = "The output is empty at first.")
    static void emptyOutput(Check check) {
        Refusal.refused(check, BookmarkManager::new, NO_SUCH, "outputAt", BookmarkManager::outputAt, 0, -1, 1);
        Refusal.refused(check, () -> Books.with("R5:1", "T1"), NO_SUCH, "outputAt", BookmarkManager::outputAt, 0);
    }

    @Sentence(of = "Promise 52", says = "`index`: the index, from 0")
    static void indexOfOutput(Check check) {
        BookmarkManager book = Books.with("R59:1");
        book.writeSeats();
        check.due('5', "outputAt(0)", () -> book.outputAt(0));
        check.due('9', "outputAt(1)", () -> book.outputAt(1));
        check.due('-', "outputAt(9), the last one", () -> book.outputAt(9));
        Refusal.refused(check, SentencesOfOutput::fourChapters, NO_SUCH, "outputAt", BookmarkManager::outputAt, -1);
    }

    @Sentence(of = "Promise 52", says = "Throws `IndexOutOfBoundsException` if there is no character at this index")
    static void outputAtNoIndex(Check check) {
        Refusal.taken(check, () -> shortened("R59:1"), "outputAt", BookmarkManager::outputAt, 0, 3);
        Refusal.refused(check, () -> shortened("R59:1"), NO_SUCH, "outputAt", BookmarkManager::outputAt, -1, 4, 5, 9, MIN, MAX);
        Refusal.taken(check, () -> Books.settled("R59:1"), "outputAt", BookmarkManager::outputAt, 0, 9);
        Refusal.refused(check, () -> Books.settled("R59:1"), NO_SUCH, "outputAt", BookmarkManager::outputAt, -1, 10);
    }

    /** The output has 4 characters, in place of 10. */
    private static BookmarkManager shortened(String input) {
        BookmarkManager book = Books.settled(input, "C10");
        book.writeChapter(1);
        book.writeSeats();
        book.writeChapter(0);
        book.undo();
        book.removeMark(0);
        book.writeChapter(0);
        return book;
    }
}
