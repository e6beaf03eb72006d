/** Steps that many tests share. */
final class Books {
    private Books() {
    }

    static void type(BookmarkManager book, String input) {
        for (int index = 0; index < input.length(); index++) {
            book.appendInput(input.charAt(index));
        }
    }

    /** Types an input and executes it. */
    static int run(BookmarkManager book, String input) {
        type(book, input);
        return book.execute();
    }

    /** A new book on which these commands have been executed, each one as a change of its own. */
    static BookmarkManager with(String... inputs) {
        BookmarkManager book = new BookmarkManager();
        for (String input : inputs) {
            run(book, input);
        }
        return book;
    }

    /**
     * A book after these inputs, each one a change of its own, with all that a refused call could spoil beside:
     * a syntax error, a rejection, a snapshot ahead of the last change, an output, and the input "C3".
     */
    static BookmarkManager settled(String... inputs) {
        BookmarkManager book = new BookmarkManager();
        Check.answer(() -> run(book, "T1;"));
        Check.answer(() -> book.turnPages(7, false));
        for (int index = 0; index < inputs.length; index++) {
            if (index == inputs.length - 1) {
                book.saveSnapshot();
            }
            run(book, inputs[index]);
        }
        book.writeSeats();
        type(book, "C3");
        return book;
    }

    /** The output, read character by character. */
    static String output(BookmarkManager book, int length) {
        StringBuilder text = new StringBuilder();
        for (int index = 0; index < length; index++) {
            text.append(book.outputAt(index));
        }
        return text.toString();
    }

    /** The output up to the first index without a character. */
    static String wholeOutput(BookmarkManager book) {
        StringBuilder text = new StringBuilder();
        int index = 0;
        for (Object part = outputPart(book, index); part instanceof Character; part = outputPart(book, index)) {
            text.append(part);
            index++;
        }
        return text.toString();
    }

    private static Object outputPart(BookmarkManager book, int index) {
        return Check.answer(() -> book.outputAt(index));
    }

    static String chapterText(BookmarkManager book, int chapter) {
        return output(book, book.writeChapter(chapter));
    }

    static String seatText(BookmarkManager book) {
        return output(book, book.writeSeats());
    }

    /** The reason, the detail and the cause of the latest rejection, with "-" for what there is none. */
    static String rejection(BookmarkManager book) {
        return part(book::rejectionReason) + " " + part(book::rejectionDetail) + " " + part(book::causeReason);
    }

    /** The offset of the latest syntax error, "-" if there was none. */
    static String syntaxError(BookmarkManager book) {
        return part(book::syntaxErrorOffset);
    }

    private static String part(Check.Call call) {
        Object answer = Check.answer(call);
        return answer.equals("java.util.NoSuchElementException") ? "-" : answer.toString();
    }

    /** All that undo and the snapshot cover, as far as it can be asked for, in one text. */
    static String state(BookmarkManager book) {
        StringBuilder text = new StringBuilder();
        int marks = book.markCount();
        for (int position = 0; position < marks; position++) {
            int mark = book.markByPage(position);
            boolean ribbon = book.isRibbon(mark);
            text.append(mark).append(ribbon ? 'r' : 'e').append(book.pageOf(mark));
            text.append('*').append(book.weightOf(mark)).append('w').append(book.wearOf(mark));
            text.append(ribbon ? "s" + book.seatOf(mark) : "").append(' ');
        }
        text.append('|');
        int chapters = book.chapterCount();
        for (int chapter = 0; chapter < chapters; chapter++) {
            text.append(' ').append(book.firstPage(chapter));
        }
        text.append(" | reader ").append(book.currentPage()).append(" votes ").append(book.votesHeld());
        text.append(' ').append(book.motionsCarried()).append(" fallen ").append(book.fallenEars());
        return text.toString();
    }
}
