import java.util.ArrayList;
import java.util.List;
import java.util.function.Consumer;
import java.util.function.Function;
import java.util.function.Supplier;

/**
 * A call that is refused, and all that it leaves as it was: what can be asked for now, what the input holds,
 * the id that is given next, the states that undo leads back to, and the snapshot. Each of these is looked at
 * on a book of its own, so that looking at one doesn't spoil another.
 */
final class Refusal {
    /** A value at a boundary, given to a book. */
    interface IntCall {
        Object answer(BookmarkManager book, int value);
    }

    private static final int MORE_THAN_ALL_CHANGES = 9;

    private Refusal() {
    }

    /** The call returns for each of these values. */
    static void taken(Check check, Supplier<BookmarkManager> setting, String name, IntCall call, int... values) {
        for (int value : values) {
            BookmarkManager book = setting.get();
            check.due("taken", name + "(.. " + value + " ..)", () -> {
                call.answer(book, value);
                return "taken";
            });
        }
    }

    /** The call throws for each of these values, and changes nothing. */
    static void refused(Check check, Supplier<BookmarkManager> setting, Class<? extends RuntimeException> exception,
            String name, IntCall call, int... values) {
        for (int value : values) {
            refused(check, setting, exception, name + "(.. " + value + " ..)", book -> call.answer(book, value));
        }
    }

    /** The call throws and changes nothing, not even the latest rejection. */
    static void refused(Check check, Supplier<BookmarkManager> setting, Class<? extends RuntimeException> exception,
            String name, Consumer<BookmarkManager> call) {
        String rejection = Books.rejection(setting.get());
        String offset = Books.syntaxError(setting.get());
        new Look(check, name, setting, () -> after(setting, call)).same(exception, rejection, offset, call);
    }

    /** The call is rejected, and changes nothing but the latest rejection. */
    static void rejected(Check check, Supplier<BookmarkManager> setting, String rejection, String name,
            Consumer<BookmarkManager> call) {
        String offset = Books.syntaxError(setting.get());
        new Look(check, name, setting, () -> after(setting, call))
            .same(UnsupportedOperationException.class, rejection, offset, call);
    }

    /** The execution of an input fails: the input is empty then, and nothing else is changed but what is told here. */
    static void failed(Check check, Supplier<BookmarkManager> setting, Class<? extends RuntimeException> exception,
            String rejection, String offset, String input) {
        Supplier<BookmarkManager> typed = () -> {
            BookmarkManager book = setting.get();
            Books.type(book, input);
            return book;
        };
        new Look(check, "execute() of \"" + input + "\"", setting, () -> after(typed, BookmarkManager::execute), typed)
            .same(exception, rejection, offset, BookmarkManager::execute);
    }

    private static BookmarkManager after(Supplier<BookmarkManager> setting, Consumer<BookmarkManager> call) {
        BookmarkManager book = setting.get();
        attempt(book, call);
        return book;
    }

    private static Object attempt(BookmarkManager book, Consumer<BookmarkManager> call) {
        return Check.answer(() -> {
            call.accept(book);
            return "an answer";
        });
    }

    /** Looks at the books that a call should leave alike. */
    private static final class Look {
        private final Check check;
        private final String name;
        private final Supplier<BookmarkManager> want;
        private final Supplier<BookmarkManager> got;
        private final Supplier<BookmarkManager> caller;

        Look(Check check, String name, Supplier<BookmarkManager> want, Supplier<BookmarkManager> got) {
            this(check, name, want, got, want);
        }

        Look(Check check, String name, Supplier<BookmarkManager> want, Supplier<BookmarkManager> got,
                Supplier<BookmarkManager> caller) {
            this.check = check;
            this.name = name;
            this.want = want;
            this.got = got;
            this.caller = caller;
        }

        void same(Class<? extends RuntimeException> exception, String rejection, String offset,
                Consumer<BookmarkManager> call) {
            check.compare(exception.getName(), name, attempt(caller.get(), call));
            check.compare(rejection, name + ", then the latest rejection", Books.rejection(got.get()));
            check.compare(offset, name + ", then the latest syntax error", Books.syntaxError(got.get()));
            same("the state", Books::state);
            same("the output", Books::wholeOutput);
            same("undoCount()", book -> book.undoCount());
            same("the input", Refusal::executed);
            same("the next id", Refusal::nextId);
            same("the snapshot", Refusal::restored);
            for (int times = 1; times <= MORE_THAN_ALL_CHANGES; times++) {
                int undone = times;
                same("the state after " + times + " undo()", book -> undone(book, undone));
            }
        }

        private void same(String what, Function<BookmarkManager, Object> view) {
            check.compare(view.apply(want.get()), name + ", then " + what, view.apply(got.get()));
        }
    }

    private static Object executed(BookmarkManager book) {
        int length = book.appendInput('1');
        return length + " " + Check.answer(book::execute) + " " + Books.syntaxError(book) + " " + Books.state(book);
    }

    private static Object nextId(BookmarkManager book) {
        if (book.markCount() == 12) {
            book.removeMark(book.markByPage(0));
        }
        int page = 0;
        while (book.isHeld(page)) {
            page++;
        }
        return book.addDogEar(page, 1);
    }

    private static Object restored(BookmarkManager book) {
        Object answer = Check.answer(book::restoreSnapshot);
        return answer + " " + Books.state(book) + " " + book.undoCount() + " " + nextId(book);
    }

    private static Object undone(BookmarkManager book, int times) {
        List<Object> answers = new ArrayList<>();
        for (int time = 0; time < times; time++) {
            answers.add(Check.answer(book::undo));
        }
        return answers + " " + Books.state(book) + " " + nextId(book);
    }
}
