import java.util.NoSuchElementException;

/**
 * A manager of the bookmarks of one book: ribbons with seats, dog ears that wear, chapters that are
 * started and dissolved by votes, a reader, commands, rejections, undo and a snapshot.
 */
public final class BookmarkManager {
    public static final int MARK_LIMIT = 1;
    public static final int NO_FREE_SEAT = 2;
    public static final int PAGE_HELD = 3;
    public static final int NOT_A_RIBBON = 4;
    public static final int SAME_RIBBON = 5;
    public static final int CHAPTER_LIMIT = 6;
    public static final int CHAPTER_START = 7;
    public static final int ONLY_CHAPTER = 8;
    public static final int BOOK_END = 9;
    public static final int COMMAND_REJECTED = 10;

    private static final int BOOK_PAGES = 60;
    private static final int MOST_MARKS = 12;
    private static final int SEATS = 5;
    private static final int MOST_CHAPTERS = 8;
    private static final int HEAVIEST = 9;
    private static final int MOST_TURNED = 20;
    private static final int WEAR_TO_FALL = 3;
    private static final int UNDO_DEPTH = 8;
    private static final int INPUT_ROOM = 60;
    /** A command has two characters at least, so this many are enough for any input. */
    private static final int COMMAND_ROOM = 30;
    private static final int MOST_DIGITS = 3;
    private static final char FIRST_INPUT_CHARACTER = 32;
    private static final char LAST_INPUT_CHARACTER = 126;

    /** Stands for no slot, no seat, no digit and no syntax error. */
    private static final int NONE = -1;
    /** Stands for no reason to reject; all reasons are greater. */
    private static final int ALLOWED = 0;

    /** The kinds of changes, named by the letters of their commands. */
    private static final char ADD_RIBBON = 'R';
    private static final char ADD_EAR = 'E';
    private static final char REMOVE = 'X';
    private static final char MOVE = 'M';
    private static final char SWAP = 'S';
    private static final char START = 'C';
    private static final char VOTE = 'V';
    private static final char TURN_FORWARD = 'T';
    private static final char TURN_BACK = 'B';

    private final Book book = new Book();
    private final Book beforeCommands = new Book();
    private final Book snapshot = new Book();
    private final History history = new History();
    private final Script script = new Script();
    private final StringBuilder output = new StringBuilder();
    private boolean hasSnapshot = false;
    private int latestSyntaxError = NONE;
    private int latestReason = ALLOWED;
    private int latestDetail = 0;
    private int latestCause = ALLOWED;

    public BookmarkManager() {
    }

    // ---- marks

    public int addRibbon(int page, int weight) throws IndexOutOfBoundsException, IllegalArgumentException, UnsupportedOperationException {
        requirePage(page);
        requireWeight(weight);
        return changeUnlessRejected(ADD_RIBBON, page, weight);
    }

    public int addDogEar(int page, int weight) throws IndexOutOfBoundsException, IllegalArgumentException, UnsupportedOperationException {
        requirePage(page);
        requireWeight(weight);
        return changeUnlessRejected(ADD_EAR, page, weight);
    }

    public int removeMark(int mark) throws IndexOutOfBoundsException {
        requireMark(mark);
        history.remember(book);
        return book.carryOut(REMOVE, mark, 0);
    }

    public int moveRibbon(int mark, int page) throws IndexOutOfBoundsException, UnsupportedOperationException {
        requireMark(mark);
        requirePage(page);
        return changeUnlessRejected(MOVE, mark, page);
    }

    public int swapSeats(int first, int second) throws IndexOutOfBoundsException, UnsupportedOperationException {
        requireMark(first);
        requireMark(second);
        return changeUnlessRejected(SWAP, first, second);
    }

    public boolean isRibbon(int mark) throws IndexOutOfBoundsException {
        return book.hasSeat(requireMark(mark));
    }

    public int pageOf(int mark) throws IndexOutOfBoundsException {
        return book.pages[requireMark(mark)];
    }

    public int weightOf(int mark) throws IndexOutOfBoundsException {
        return book.weights[requireMark(mark)];
    }

    public int wearOf(int mark) throws IndexOutOfBoundsException {
        return book.wears[requireMark(mark)];
    }

    public int seatOf(int mark) throws IndexOutOfBoundsException, NoSuchElementException {
        int slot = requireMark(mark);
        if (!book.hasSeat(slot)) {
            throw new NoSuchElementException("a dog ear has no seat");
        }
        return book.seats[slot];
    }

    public int ribbonIn(int seat) throws IndexOutOfBoundsException, NoSuchElementException {
        if (seat < 0 || seat >= SEATS) {
            throw new IndexOutOfBoundsException("no such seat");
        }
        return idOfFound(book.slotInSeat(seat));
    }

    // ---- pages

    public boolean isHeld(int page) throws IndexOutOfBoundsException {
        requirePage(page);
        return book.slotOnPage(page) != NONE;
    }

    public int markOn(int page) throws IndexOutOfBoundsException, NoSuchElementException {
        requirePage(page);
        return idOfFound(book.slotOnPage(page));
    }

    public int nextMark(int page) throws IndexOutOfBoundsException, NoSuchElementException {
        requirePage(page);
        return idOfFound(book.slotFrom(page));
    }

    public int previousMark(int page) throws IndexOutOfBoundsException, NoSuchElementException {
        requirePage(page);
        return idOfFound(book.slotUpTo(page));
    }

    public int nearestMark(int page) throws IndexOutOfBoundsException, NoSuchElementException {
        requirePage(page);
        return idOfFound(book.slotNearest(page));
    }

    public int chapterOf(int page) throws IndexOutOfBoundsException {
        requirePage(page);
        return book.chapterWith(page);
    }

    // ---- chapters

    public int startChapter(int page) throws IndexOutOfBoundsException, UnsupportedOperationException {
        requirePage(page);
        return changeUnlessRejected(START, page, 0);
    }

    public boolean voteToDissolve(int chapter) throws IndexOutOfBoundsException, UnsupportedOperationException {
        requireChapter(chapter);
        return changeUnlessRejected(VOTE, chapter, 0) == 1;
    }

    public int firstPage(int chapter) throws IndexOutOfBoundsException {
        requireChapter(chapter);
        return book.starts[chapter];
    }

    public int lastPage(int chapter) throws IndexOutOfBoundsException {
        requireChapter(chapter);
        return book.endOf(chapter);
    }

    public int heldPages(int chapter) throws IndexOutOfBoundsException {
        requireChapter(chapter);
        return book.heldPageByPage(chapter);
    }

    public int heldPagesByMarks(int chapter) throws IndexOutOfBoundsException {
        requireChapter(chapter);
        return book.heldMarkByMark(chapter);
    }

    public int chapterWeight(int chapter) throws IndexOutOfBoundsException {
        requireChapter(chapter);
        return book.weightIn(chapter);
    }

    public int weightInFavour(int chapter) throws IndexOutOfBoundsException {
        requireChapter(chapter);
        return book.favour(chapter);
    }

    public int weightAgainst(int chapter) throws IndexOutOfBoundsException {
        requireChapter(chapter);
        return book.against(chapter);
    }

    public int weightAgainstByTotal(int chapter) throws IndexOutOfBoundsException {
        requireChapter(chapter);
        return book.againstByTotal(chapter);
    }

    public boolean wouldDissolve(int chapter) throws IndexOutOfBoundsException {
        requireChapter(chapter);
        return book.wouldCarry(chapter);
    }

    public int heaviestChapter() {
        return book.heaviest();
    }

    // ---- the reader

    public int turnPages(int count, boolean forward) throws IllegalArgumentException, UnsupportedOperationException {
        requireCount(count);
        return changeUnlessRejected(forward ? TURN_FORWARD : TURN_BACK, count, 0);
    }

    public int currentPage() {
        return book.reader;
    }

    public int pagesToNextMark() throws NoSuchElementException {
        int slot = book.slotFrom(book.reader + 1);
        if (slot == NONE) {
            throw new NoSuchElementException("no later page is held");
        }
        return book.pages[slot] - book.reader;
    }

    public int earsAtRisk(int count, boolean forward) throws IllegalArgumentException {
        requireCount(count);
        return book.earsAboutToFall(count, forward);
    }

    // ---- orders and totals

    public int markByPage(int position) throws NoSuchElementException {
        return idOfFound(position >= 0 && position < book.marks ? position : NONE);
    }

    public int markByWeight(int position) throws NoSuchElementException {
        return idOfFound(book.slotOfRank(position));
    }

    public int span() {
        return book.spanStepByStep();
    }

    public int spanByEnds() {
        return book.spanEndToEnd();
    }

    public int ribbonWeight() {
        return book.weightOfKind(true);
    }

    public int dogEarWeight() {
        return book.weightOfKind(false);
    }

    public int markCount() {
        return book.marks;
    }

    public int ribbonCount() {
        return book.ribbons();
    }

    public int chapterCount() {
        return book.chapters;
    }

    public int votesHeld() {
        return book.votes;
    }

    public int motionsCarried() {
        return book.carried;
    }

    public int fallenEars() {
        return book.fallen;
    }

    public double meanWeight() throws ArithmeticException {
        if (book.marks == 0) {
            throw new ArithmeticException("there are no marks");
        }
        return (double) book.weightOfAll() / (double) book.marks;
    }

    public float heldShare(int chapter) throws IndexOutOfBoundsException {
        requireChapter(chapter);
        int all = book.endOf(chapter) - book.starts[chapter] + 1;
        // Every chapter has a page, but the language wants each divisor looked at before it divides.
        return all > 0 ? (float) book.heldPageByPage(chapter) / (float) all : 0.0f;
    }

    public boolean isConsistent() {
        return book.chapterWaysAgree()
            && book.spanStepByStep() == book.spanEndToEnd()
            && book.pagesDiffer()
            && book.seatsDiffer();
    }

    // ---- text output

    public int writeChapter(int chapter) throws IndexOutOfBoundsException {
        requireChapter(chapter);
        output.setLength(0);
        output.append(book.starts[chapter]);
        output.append('-');
        output.append(book.endOf(chapter));
        for (int slot = 0; slot < book.marks; slot++) {
            if (book.isIn(slot, chapter)) {
                writeMark(slot);
            }
        }
        return output.length();
    }

    public int writeSeats() {
        output.setLength(0);
        for (int seat = 0; seat < SEATS; seat++) {
            if (seat > 0) {
                output.append(',');
            }
            writeSeat(seat);
        }
        return output.length();
    }

    public char outputAt(int index) throws IndexOutOfBoundsException {
        if (index < 0 || index >= output.length()) {
            throw new IndexOutOfBoundsException("no character at this index");
        }
        return output.charAt(index);
    }

    // ---- commands

    public int appendInput(char character) throws IllegalArgumentException, IllegalStateException {
        if (character < FIRST_INPUT_CHARACTER || character > LAST_INPUT_CHARACTER) {
            throw new IllegalArgumentException("the code is out of range");
        }
        if (script.length >= INPUT_ROOM) {
            throw new IllegalStateException("the input is full");
        }
        return script.append(character);
    }

    public int execute() throws IllegalArgumentException, IllegalStateException, UnsupportedOperationException {
        int offset = script.takeCommands();
        if (offset != NONE) {
            latestSyntaxError = offset;
            throw new IllegalArgumentException("the input has a syntax error");
        }
        beforeCommands.copyFrom(book);
        for (int number = 0; number < script.commands; number++) {
            char kind = script.kinds[number];
            int first = script.firsts[number];
            int second = script.seconds[number];
            if (!book.accepts(kind, first, second)) {
                book.copyFrom(beforeCommands);
                throw new IllegalStateException("a command has a number that is not accepted");
            }
            int reason = book.reasonAgainst(kind, first, second);
            if (reason != ALLOWED) {
                book.copyFrom(beforeCommands);
                noteRejection(COMMAND_REJECTED, number, reason);
                throw new UnsupportedOperationException("a command is rejected");
            }
            book.carryOut(kind, first, second);
        }
        history.remember(beforeCommands);
        return script.commands;
    }

    public int syntaxErrorOffset() throws NoSuchElementException {
        if (latestSyntaxError == NONE) {
            throw new NoSuchElementException("there was no syntax error");
        }
        return latestSyntaxError;
    }

    // ---- rejections and history

    public int rejectionReason() throws NoSuchElementException {
        requireRejection();
        return latestReason;
    }

    public int rejectionDetail() throws NoSuchElementException {
        requireRejection();
        return latestDetail;
    }

    public int causeReason() throws NoSuchElementException {
        if (latestReason != COMMAND_REJECTED) {
            throw new NoSuchElementException("the latest rejection is not of a command");
        }
        return latestCause;
    }

    public int undo() throws IllegalStateException {
        if (history.count == 0) {
            throw new IllegalStateException("no change can be undone");
        }
        history.bringBackTo(book);
        return history.count;
    }

    public int undoCount() {
        return history.count;
    }

    public int saveSnapshot() {
        snapshot.copyFrom(book);
        hasSnapshot = true;
        return book.marks;
    }

    public int restoreSnapshot() throws IllegalStateException {
        if (!hasSnapshot) {
            throw new IllegalStateException("there is no snapshot");
        }
        book.copyFrom(snapshot);
        history.forget();
        return book.marks;
    }

    // ---- what the calls share

    private void requirePage(int page) {
        if (!book.hasPage(page)) {
            throw new IndexOutOfBoundsException("no such page");
        }
    }

    private void requireWeight(int weight) {
        if (!book.takesWeight(weight)) {
            throw new IllegalArgumentException("the weight is out of range");
        }
    }

    private void requireCount(int count) {
        if (!book.takesCount(count)) {
            throw new IllegalArgumentException("the count is out of range");
        }
    }

    private void requireChapter(int chapter) {
        if (!book.hasChapter(chapter)) {
            throw new IndexOutOfBoundsException("no such chapter");
        }
    }

    private int requireMark(int mark) {
        int slot = book.slotWithId(mark);
        if (slot == NONE) {
            throw new IndexOutOfBoundsException("no mark with this id");
        }
        return slot;
    }

    private void requireRejection() {
        if (latestReason == ALLOWED) {
            throw new NoSuchElementException("no call was rejected");
        }
    }

    private int idOfFound(int slot) {
        if (slot == NONE) {
            throw new NoSuchElementException("there is no such mark");
        }
        return book.ids[slot];
    }

    private int changeUnlessRejected(char kind, int first, int second) {
        int reason = book.reasonAgainst(kind, first, second);
        if (reason != ALLOWED) {
            noteRejection(reason, book.detailOf(reason, kind, first, second), ALLOWED);
            throw new UnsupportedOperationException("the call is rejected");
        }
        history.remember(book);
        return book.carryOut(kind, first, second);
    }

    private void noteRejection(int reason, int detail, int cause) {
        latestReason = reason;
        latestDetail = detail;
        latestCause = cause;
    }

    private void writeMark(int slot) {
        output.append(' ');
        output.append(book.hasSeat(slot) ? 'r' : 'e');
        output.append(book.pages[slot]);
        output.append('*');
        output.append(book.weights[slot]);
    }

    private void writeSeat(int seat) {
        int slot = book.slotInSeat(seat);
        if (slot == NONE) {
            output.append('-');
        } else {
            output.append(book.pages[slot]);
        }
    }

    /**
     * All that undo and the snapshot cover. A mark is a slot in five rows; the slots in use are the
     * first ones, in the order of pages, so that the orders and the spans need no sorting.
     */
    private static final class Book {
        final int[] ids = new int[MOST_MARKS];
        final int[] pages = new int[MOST_MARKS];
        final int[] weights = new int[MOST_MARKS];
        final int[] wears = new int[MOST_MARKS];
        /** NONE for a dog ear: this is what makes a mark a dog ear. */
        final int[] seats = new int[MOST_MARKS];
        final int[] starts = new int[MOST_CHAPTERS];
        int marks = 0;
        int chapters = 1;
        int reader = 0;
        int nextId = 0;
        int votes = 0;
        int carried = 0;
        int fallen = 0;

        void copyFrom(Book other) {
            System.arraycopy(other.ids, 0, ids, 0, MOST_MARKS);
            System.arraycopy(other.pages, 0, pages, 0, MOST_MARKS);
            System.arraycopy(other.weights, 0, weights, 0, MOST_MARKS);
            System.arraycopy(other.wears, 0, wears, 0, MOST_MARKS);
            System.arraycopy(other.seats, 0, seats, 0, MOST_MARKS);
            System.arraycopy(other.starts, 0, starts, 0, MOST_CHAPTERS);
            marks = other.marks;
            chapters = other.chapters;
            reader = other.reader;
            nextId = other.nextId;
            votes = other.votes;
            carried = other.carried;
            fallen = other.fallen;
        }

        // ---- what can be named

        boolean hasPage(int page) {
            return page >= 0 && page < BOOK_PAGES;
        }

        boolean hasChapter(int chapter) {
            return chapter >= 0 && chapter < chapters;
        }

        boolean takesWeight(int weight) {
            return weight >= 1 && weight <= HEAVIEST;
        }

        boolean takesCount(int count) {
            return count >= 1 && count <= MOST_TURNED;
        }

        boolean hasSeat(int slot) {
            return seats[slot] != NONE;
        }

        // ---- finding marks

        int slotWithId(int id) {
            for (int slot = 0; slot < marks; slot++) {
                if (ids[slot] == id) {
                    return slot;
                }
            }
            return NONE;
        }

        int slotOnPage(int page) {
            for (int slot = 0; slot < marks; slot++) {
                if (pages[slot] == page) {
                    return slot;
                }
            }
            return NONE;
        }

        int slotInSeat(int seat) {
            for (int slot = 0; slot < marks; slot++) {
                if (seats[slot] == seat) {
                    return slot;
                }
            }
            return NONE;
        }

        int slotFrom(int page) {
            for (int slot = 0; slot < marks; slot++) {
                if (pages[slot] >= page) {
                    return slot;
                }
            }
            return NONE;
        }

        int slotUpTo(int page) {
            for (int slot = marks - 1; slot >= 0; slot--) {
                if (pages[slot] <= page) {
                    return slot;
                }
            }
            return NONE;
        }

        int slotNearest(int page) {
            int below = slotUpTo(page);
            int above = slotFrom(page);
            if (below == NONE) {
                return above;
            }
            if (above == NONE) {
                return below;
            }
            return page - pages[below] <= pages[above] - page ? below : above;
        }

        int slotOfRank(int rank) {
            for (int slot = 0; slot < marks; slot++) {
                if (rankOf(slot) == rank) {
                    return slot;
                }
            }
            return NONE;
        }

        int rankOf(int slot) {
            int ahead = 0;
            for (int other = 0; other < marks; other++) {
                if (isAhead(other, slot)) {
                    ahead++;
                }
            }
            return ahead;
        }

        boolean isAhead(int slot, int other) {
            if (weights[slot] != weights[other]) {
                return weights[slot] > weights[other];
            }
            if (hasSeat(slot) != hasSeat(other)) {
                return hasSeat(slot);
            }
            return pages[slot] < pages[other];
        }

        int freeSeat() {
            for (int seat = 0; seat < SEATS; seat++) {
                if (slotInSeat(seat) == NONE) {
                    return seat;
                }
            }
            return NONE;
        }

        // ---- chapters

        int chapterWith(int page) {
            for (int chapter = chapters - 1; chapter > 0; chapter--) {
                if (starts[chapter] <= page) {
                    return chapter;
                }
            }
            return 0;
        }

        int endOf(int chapter) {
            return chapter + 1 < chapters ? starts[chapter + 1] - 1 : BOOK_PAGES - 1;
        }

        boolean isIn(int slot, int chapter) {
            int page = pages[slot];
            return page >= starts[chapter] && (chapter + 1 >= chapters || page < starts[chapter + 1]);
        }

        int heldPageByPage(int chapter) {
            int held = 0;
            int end = endOf(chapter);
            for (int page = starts[chapter]; page <= end; page++) {
                if (slotOnPage(page) != NONE) {
                    held++;
                }
            }
            return held;
        }

        int heldMarkByMark(int chapter) {
            int held = 0;
            for (int slot = 0; slot < marks; slot++) {
                if (isIn(slot, chapter)) {
                    held++;
                }
            }
            return held;
        }

        int weightIn(int chapter) {
            int sum = 0;
            for (int slot = 0; slot < marks; slot++) {
                if (isIn(slot, chapter)) {
                    sum += weights[slot];
                }
            }
            return sum;
        }

        int favour(int chapter) {
            int sum = 0;
            for (int slot = 0; slot < marks; slot++) {
                if (hasSeat(slot) && !isIn(slot, chapter)) {
                    sum += weights[slot];
                }
            }
            return sum;
        }

        int against(int chapter) {
            int sum = 0;
            for (int slot = 0; slot < marks; slot++) {
                if (!hasSeat(slot) || isIn(slot, chapter)) {
                    sum += weights[slot];
                }
            }
            return sum;
        }

        int againstByTotal(int chapter) {
            return weightOfAll() - favour(chapter);
        }

        boolean wouldCarry(int chapter) {
            return favour(chapter) > against(chapter);
        }

        int heaviest() {
            int best = 0;
            for (int chapter = 1; chapter < chapters; chapter++) {
                if (weightIn(chapter) > weightIn(best)) {
                    best = chapter;
                }
            }
            return best;
        }

        // ---- totals and checks

        int weightOfAll() {
            int sum = 0;
            for (int slot = 0; slot < marks; slot++) {
                sum += weights[slot];
            }
            return sum;
        }

        int weightOfKind(boolean ribbons) {
            int sum = 0;
            for (int slot = 0; slot < marks; slot++) {
                if (hasSeat(slot) == ribbons) {
                    sum += weights[slot];
                }
            }
            return sum;
        }

        int ribbons() {
            int count = 0;
            for (int slot = 0; slot < marks; slot++) {
                if (hasSeat(slot)) {
                    count++;
                }
            }
            return count;
        }

        int spanStepByStep() {
            int sum = 0;
            for (int slot = 1; slot < marks; slot++) {
                sum += pages[slot] - pages[slot - 1];
            }
            return sum;
        }

        int spanEndToEnd() {
            return marks < 2 ? 0 : pages[marks - 1] - pages[0];
        }

        boolean chapterWaysAgree() {
            for (int chapter = 0; chapter < chapters; chapter++) {
                if (heldPageByPage(chapter) != heldMarkByMark(chapter)) {
                    return false;
                }
                if (against(chapter) != againstByTotal(chapter)) {
                    return false;
                }
            }
            return true;
        }

        boolean pagesDiffer() {
            for (int slot = 0; slot < marks; slot++) {
                if (slotOnPage(pages[slot]) != slot) {
                    return false;
                }
            }
            return true;
        }

        boolean seatsDiffer() {
            for (int slot = 0; slot < marks; slot++) {
                if (hasSeat(slot) && slotInSeat(seats[slot]) != slot) {
                    return false;
                }
            }
            return true;
        }

        // ---- whether a change is possible

        boolean accepts(char kind, int first, int second) {
            switch (kind) {
                case ADD_RIBBON:
                case ADD_EAR:
                    return hasPage(first) && takesWeight(second);
                case REMOVE:
                    return slotWithId(first) != NONE;
                case MOVE:
                    return slotWithId(first) != NONE && hasPage(second);
                case SWAP:
                    return slotWithId(first) != NONE && slotWithId(second) != NONE;
                case START:
                    return hasPage(first);
                case VOTE:
                    return hasChapter(first);
                default:
                    return takesCount(first);
            }
        }

        int reasonAgainst(char kind, int first, int second) {
            switch (kind) {
                case ADD_RIBBON:
                    return reasonAgainstRibbon(first);
                case ADD_EAR:
                    return reasonAgainstEar(first);
                case MOVE:
                    return reasonAgainstMove(first, second);
                case SWAP:
                    return reasonAgainstSwap(first, second);
                case START:
                    return reasonAgainstStart(first);
                case VOTE:
                    return chapters == 1 ? ONLY_CHAPTER : ALLOWED;
                case TURN_FORWARD:
                    return hasPage(reader + first) ? ALLOWED : BOOK_END;
                case TURN_BACK:
                    return hasPage(reader - first) ? ALLOWED : BOOK_END;
                default:
                    return ALLOWED;
            }
        }

        int reasonAgainstRibbon(int page) {
            if (marks >= MOST_MARKS) {
                return MARK_LIMIT;
            }
            if (freeSeat() == NONE) {
                return NO_FREE_SEAT;
            }
            return slotOnPage(page) != NONE ? PAGE_HELD : ALLOWED;
        }

        int reasonAgainstEar(int page) {
            if (marks >= MOST_MARKS) {
                return MARK_LIMIT;
            }
            return slotOnPage(page) != NONE ? PAGE_HELD : ALLOWED;
        }

        int reasonAgainstMove(int mark, int page) {
            if (!isRibbonId(mark)) {
                return NOT_A_RIBBON;
            }
            return slotOnPage(page) != NONE ? PAGE_HELD : ALLOWED;
        }

        int reasonAgainstSwap(int first, int second) {
            if (!isRibbonId(first) || !isRibbonId(second)) {
                return NOT_A_RIBBON;
            }
            return first == second ? SAME_RIBBON : ALLOWED;
        }

        int reasonAgainstStart(int page) {
            if (chapters >= MOST_CHAPTERS) {
                return CHAPTER_LIMIT;
            }
            return starts[chapterWith(page)] == page ? CHAPTER_START : ALLOWED;
        }

        boolean isRibbonId(int mark) {
            int slot = slotWithId(mark);
            return slot != NONE && hasSeat(slot);
        }

        int detailOf(int reason, char kind, int first, int second) {
            switch (reason) {
                case MARK_LIMIT:
                    return MOST_MARKS;
                case NO_FREE_SEAT:
                    return SEATS;
                case CHAPTER_LIMIT:
                    return MOST_CHAPTERS;
                case PAGE_HELD:
                    return idOnPage(kind == MOVE ? second : first);
                case NOT_A_RIBBON:
                    return isRibbonId(first) ? second : first;
                case SAME_RIBBON:
                    return first;
                case CHAPTER_START:
                    return chapterWith(first);
                case BOOK_END:
                    return reader;
                default:
                    return 0;
            }
        }

        int idOnPage(int page) {
            int slot = slotOnPage(page);
            return slot == NONE ? NONE : ids[slot];
        }

        // ---- changes, each one accepted and allowed before

        int carryOut(char kind, int first, int second) {
            switch (kind) {
                case ADD_RIBBON:
                    return add(first, second, freeSeat());
                case ADD_EAR:
                    return add(first, second, NONE);
                case REMOVE:
                    return remove(slotWithId(first));
                case MOVE:
                    return move(slotWithId(first), second);
                case SWAP:
                    return swap(slotWithId(first), slotWithId(second));
                case START:
                    return start(first);
                case VOTE:
                    return vote(first) ? 1 : 0;
                case TURN_FORWARD:
                    return turn(first, true);
                default:
                    return turn(first, false);
            }
        }

        int add(int page, int weight, int seat) {
            int id = nextId;
            nextId++;
            insert(id, page, weight, 0, seat);
            return id;
        }

        int remove(int slot) {
            if (slot == NONE) {
                return NONE;
            }
            int page = pages[slot];
            takeOut(slot);
            return page;
        }

        int move(int slot, int page) {
            if (slot == NONE) {
                return NONE;
            }
            int id = ids[slot];
            int weight = weights[slot];
            int wear = wears[slot];
            int seat = seats[slot];
            int before = remove(slot);
            insert(id, page, weight, wear, seat);
            return before;
        }

        int swap(int slot, int other) {
            if (slot == NONE || other == NONE) {
                return NONE;
            }
            int seat = seats[other];
            seats[other] = seats[slot];
            seats[slot] = seat;
            return seat;
        }

        void insert(int id, int page, int weight, int wear, int seat) {
            if (marks >= MOST_MARKS) {
                return;
            }
            int slot = marks;
            for (; slot > 0 && pages[slot - 1] > page; slot--) {
                copySlot(slot - 1, slot);
            }
            ids[slot] = id;
            pages[slot] = page;
            weights[slot] = weight;
            wears[slot] = wear;
            seats[slot] = seat;
            marks++;
        }

        void takeOut(int slot) {
            for (int later = slot + 1; later < marks; later++) {
                copySlot(later, later - 1);
            }
            marks--;
        }

        void copySlot(int from, int to) {
            ids[to] = ids[from];
            pages[to] = pages[from];
            weights[to] = weights[from];
            wears[to] = wears[from];
            seats[to] = seats[from];
        }

        int start(int page) {
            int index = chapterWith(page) + 1;
            if (chapters >= MOST_CHAPTERS) {
                return NONE;
            }
            for (int chapter = chapters; chapter > index; chapter--) {
                starts[chapter] = starts[chapter - 1];
            }
            starts[index] = page;
            chapters++;
            return index;
        }

        boolean vote(int chapter) {
            votes++;
            if (!wouldCarry(chapter)) {
                return false;
            }
            carried++;
            removeEarsIn(chapter);
            // The first chapter has no previous one: its next one gives up its start instead.
            dropStart(chapter == 0 ? 1 : chapter);
            return true;
        }

        void removeEarsIn(int chapter) {
            for (int slot = marks - 1; slot >= 0; slot--) {
                if (!hasSeat(slot) && isIn(slot, chapter)) {
                    takeOut(slot);
                }
            }
        }

        void dropStart(int chapter) {
            for (int later = chapter + 1; later < chapters; later++) {
                starts[later - 1] = starts[later];
            }
            chapters--;
        }

        int turn(int count, boolean forward) {
            int fell = 0;
            for (int slot = marks - 1; slot >= 0; slot--) {
                if (isEarOnTheWay(slot, count, forward)) {
                    wears[slot]++;
                    if (wears[slot] >= WEAR_TO_FALL) {
                        takeOut(slot);
                        fell++;
                    }
                }
            }
            fallen += fell;
            reader = forward ? reader + count : reader - count;
            return fell;
        }

        int earsAboutToFall(int count, boolean forward) {
            int ears = 0;
            for (int slot = 0; slot < marks; slot++) {
                if (isEarOnTheWay(slot, count, forward) && wears[slot] + 1 >= WEAR_TO_FALL) {
                    ears++;
                }
            }
            return ears;
        }

        boolean isEarOnTheWay(int slot, int count, boolean forward) {
            int distance = forward ? pages[slot] - reader : reader - pages[slot];
            return !hasSeat(slot) && distance >= 1 && distance <= count;
        }
    }

    /** The states ahead of the latest changes, in a ring, so that no state is made anew. */
    private static final class History {
        final Book[] states = new Book[UNDO_DEPTH];
        int count = 0;
        int next = 0;

        History() {
            for (int index = 0; index < UNDO_DEPTH; index++) {
                states[index] = new Book();
            }
        }

        void remember(Book state) {
            states[next].copyFrom(state);
            next = next + 1 < UNDO_DEPTH ? next + 1 : 0;
            if (count < UNDO_DEPTH) {
                count++;
            }
        }

        void bringBackTo(Book state) {
            next = next > 0 ? next - 1 : UNDO_DEPTH - 1;
            count--;
            state.copyFrom(states[next]);
        }

        void forget() {
            count = 0;
        }
    }

    /** The input, and the commands that were read from it last. */
    private static final class Script {
        final char[] input = new char[INPUT_ROOM];
        final char[] kinds = new char[COMMAND_ROOM];
        final int[] firsts = new int[COMMAND_ROOM];
        final int[] seconds = new int[COMMAND_ROOM];
        int length = 0;
        int commands = 0;
        int at = 0;

        int append(char character) {
            if (length < INPUT_ROOM) {
                input[length] = character;
                length++;
            }
            return length;
        }

        /** Empties the input into the rows of commands; answers the offset of a syntax error, or NONE. */
        int takeCommands() {
            int offset = readCommands();
            length = 0;
            return offset;
        }

        int readCommands() {
            at = 0;
            commands = 0;
            for (int number = 0; number < COMMAND_ROOM; number++) {
                if (!readCommand(number)) {
                    return at;
                }
                commands++;
                if (at == length) {
                    return NONE;
                }
                if (!skip(';')) {
                    return at;
                }
            }
            return at;
        }

        /** Leaves the position on the character that cannot follow, if there is one. */
        boolean readCommand(int number) {
            if (at >= length || !isKind(input[at])) {
                return false;
            }
            char kind = input[at];
            at++;
            int first = kind == VOTE ? readDigit() : readNumber();
            if (first == NONE) {
                return false;
            }
            int second = 0;
            if (hasSecond(kind)) {
                if (!skip(kind == SWAP ? ',' : ':')) {
                    return false;
                }
                second = takesDigitLast(kind) ? readDigit() : readNumber();
                if (second == NONE) {
                    return false;
                }
            }
            kinds[number] = kind;
            firsts[number] = first;
            seconds[number] = second;
            return true;
        }

        boolean isKind(char character) {
            switch (character) {
                case REMOVE:
                case START:
                case VOTE:
                case TURN_FORWARD:
                case TURN_BACK:
                    return true;
                default:
                    return hasSecond(character);
            }
        }

        boolean hasSecond(char kind) {
            return takesDigitLast(kind) || kind == MOVE || kind == SWAP;
        }

        boolean takesDigitLast(char kind) {
            return kind == ADD_RIBBON || kind == ADD_EAR;
        }

        boolean skip(char character) {
            if (at >= length || input[at] != character) {
                return false;
            }
            at++;
            return true;
        }

        int readDigit() {
            if (at >= length || input[at] < '0' || input[at] > '9') {
                return NONE;
            }
            int digit = input[at] - '0';
            at++;
            return digit;
        }

        int readNumber() {
            int number = NONE;
            for (int digits = 0; digits < MOST_DIGITS; digits++) {
                int digit = readDigit();
                if (digit == NONE) {
                    return number;
                }
                number = digits == 0 ? digit : number * 10 + digit;
            }
            return number;
        }
    }
}
