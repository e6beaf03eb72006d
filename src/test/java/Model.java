import java.util.ArrayList;
import java.util.Comparator;
import java.util.List;
import java.util.NoSuchElementException;
import java.util.TreeSet;
import java.util.regex.Matcher;
import java.util.regex.Pattern;

/**
 * The document a second time, written with the Java library and by other means than the program:
 * whole copies of the data, sorted lists, a regular expression for the syntax, and exceptions that
 * tell a command's failure.
 */
public final class Model {
    private static final String NUMBER = "[0-9]{1,3}";
    private static final String COMMAND = "([RE]" + NUMBER + ":[0-9]|X" + NUMBER + "|M" + NUMBER + ":" + NUMBER
        + "|S" + NUMBER + "," + NUMBER + "|C" + NUMBER + "|V[0-9]|[TB]" + NUMBER + ")";
    private static final Pattern INPUT = Pattern.compile(COMMAND + "(;" + COMMAND + ")*");

    private static final class Mark {
        int id;
        int page;
        int weight;
        int wear;
        Integer seat;

        Mark copy() {
            Mark mark = new Mark();
            mark.id = id;
            mark.page = page;
            mark.weight = weight;
            mark.wear = wear;
            mark.seat = seat;
            return mark;
        }

        boolean ribbon() {
            return seat != null;
        }
    }

    private static final class Data {
        final List<Mark> marks = new ArrayList<>();
        final TreeSet<Integer> starts = new TreeSet<>(List.of(0));
        int reader;
        int nextId;
        int votes;
        int carried;
        int fallen;

        Data copy() {
            Data data = new Data();
            for (Mark mark : marks) {
                data.marks.add(mark.copy());
            }
            data.starts.addAll(starts);
            data.reader = reader;
            data.nextId = nextId;
            data.votes = votes;
            data.carried = carried;
            data.fallen = fallen;
            return data;
        }
    }

    private Data data = new Data();
    private Data snapshot;
    private final List<Data> past = new ArrayList<>();
    private String input = "";
    private String output = "";
    private Integer syntaxError;
    private int[] rejection;
    private boolean quiet;

    // ---- marks

    public int addRibbon(int page, int weight) {
        checkPage(page);
        checkWeight(weight);
        if (data.marks.size() == 12) {
            reject(1, 12);
        }
        TreeSet<Integer> free = new TreeSet<>(List.of(0, 1, 2, 3, 4));
        data.marks.stream().filter(Mark::ribbon).forEach(mark -> free.remove(mark.seat));
        if (free.isEmpty()) {
            reject(2, 5);
        }
        rejectHeld(page);
        remember();
        return add(page, weight, free.first());
    }

    public int addDogEar(int page, int weight) {
        checkPage(page);
        checkWeight(weight);
        if (data.marks.size() == 12) {
            reject(1, 12);
        }
        rejectHeld(page);
        remember();
        return add(page, weight, null);
    }

    public int removeMark(int mark) {
        Mark found = find(mark);
        remember();
        data.marks.removeIf(other -> other.id == mark);
        return found.page;
    }

    public int moveRibbon(int mark, int page) {
        find(mark);
        checkPage(page);
        rejectEar(mark);
        rejectHeld(page);
        remember();
        int before = find(mark).page;
        find(mark).page = page;
        return before;
    }

    public int swapSeats(int first, int second) {
        find(first);
        find(second);
        rejectEar(first);
        rejectEar(second);
        if (first == second) {
            reject(5, first);
        }
        remember();
        Integer seat = find(first).seat;
        find(first).seat = find(second).seat;
        find(second).seat = seat;
        return find(first).seat;
    }

    public boolean isRibbon(int mark) {
        return find(mark).ribbon();
    }

    public int pageOf(int mark) {
        return find(mark).page;
    }

    public int weightOf(int mark) {
        return find(mark).weight;
    }

    public int wearOf(int mark) {
        return find(mark).wear;
    }

    public int seatOf(int mark) {
        if (!find(mark).ribbon()) {
            throw new NoSuchElementException();
        }
        return find(mark).seat;
    }

    public int ribbonIn(int seat) {
        if (seat < 0 || seat > 4) {
            throw new IndexOutOfBoundsException();
        }
        return data.marks.stream().filter(mark -> mark.ribbon() && mark.seat == seat).findFirst().orElseThrow().id;
    }

    // ---- pages

    public boolean isHeld(int page) {
        checkPage(page);
        return data.marks.stream().anyMatch(mark -> mark.page == page);
    }

    public int markOn(int page) {
        checkPage(page);
        return data.marks.stream().filter(mark -> mark.page == page).findFirst().orElseThrow().id;
    }

    public int nextMark(int page) {
        checkPage(page);
        for (int later = page; later < 60; later++) {
            if (isHeld(later)) {
                return markOn(later);
            }
        }
        throw new NoSuchElementException();
    }

    public int previousMark(int page) {
        checkPage(page);
        for (int earlier = page; earlier >= 0; earlier--) {
            if (isHeld(earlier)) {
                return markOn(earlier);
            }
        }
        throw new NoSuchElementException();
    }

    public int nearestMark(int page) {
        checkPage(page);
        Comparator<Mark> order = Comparator.comparingInt(mark -> Math.abs(mark.page - page));
        return data.marks.stream().min(order.thenComparingInt(mark -> mark.page)).orElseThrow().id;
    }

    public int chapterOf(int page) {
        checkPage(page);
        return data.starts.headSet(page, true).size() - 1;
    }

    // ---- chapters

    public int startChapter(int page) {
        checkPage(page);
        if (data.starts.size() == 8) {
            reject(6, 8);
        }
        if (data.starts.contains(page)) {
            reject(7, chapterOf(page));
        }
        remember();
        data.starts.add(page);
        return chapterOf(page);
    }

    public boolean voteToDissolve(int chapter) {
        checkChapter(chapter);
        if (data.starts.size() == 1) {
            reject(8, 0);
        }
        remember();
        data.votes++;
        if (!wouldDissolve(chapter)) {
            return false;
        }
        data.carried++;
        data.marks.removeIf(mark -> !mark.ribbon() && chapterOf(mark.page) == chapter);
        data.starts.remove(firstPage(chapter == 0 ? 1 : chapter));
        return true;
    }

    public int firstPage(int chapter) {
        checkChapter(chapter);
        return new ArrayList<>(data.starts).get(chapter);
    }

    public int lastPage(int chapter) {
        Integer next = data.starts.higher(firstPage(chapter));
        return next == null ? 59 : next - 1;
    }

    public int heldPages(int chapter) {
        checkChapter(chapter);
        return (int) data.marks.stream().filter(mark -> chapterOf(mark.page) == chapter).count();
    }

    public int heldPagesByMarks(int chapter) {
        return heldPages(chapter);
    }

    public int chapterWeight(int chapter) {
        checkChapter(chapter);
        return sum(mark -> chapterOf(mark.page) == chapter);
    }

    public int weightInFavour(int chapter) {
        checkChapter(chapter);
        return sum(mark -> mark.ribbon() && chapterOf(mark.page) != chapter);
    }

    public int weightAgainst(int chapter) {
        checkChapter(chapter);
        return sum(mark -> !mark.ribbon() || chapterOf(mark.page) == chapter);
    }

    public int weightAgainstByTotal(int chapter) {
        return weightAgainst(chapter);
    }

    public boolean wouldDissolve(int chapter) {
        return weightInFavour(chapter) > weightAgainst(chapter);
    }

    public int heaviestChapter() {
        int greatest = 0;
        for (int chapter = 0; chapter < data.starts.size(); chapter++) {
            greatest = Math.max(greatest, chapterWeight(chapter));
        }
        int chapter = 0;
        while (chapterWeight(chapter) < greatest) {
            chapter++;
        }
        return chapter;
    }

    // ---- the reader

    public int turnPages(int count, boolean forward) {
        checkCount(count);
        int goal = data.reader + (forward ? count : -count);
        if (goal < 0 || goal > 59) {
            reject(9, data.reader);
        }
        remember();
        int fallen = 0;
        int step = forward ? 1 : -1;
        while (data.reader != goal) {
            data.reader += step;
            for (Mark mark : List.copyOf(data.marks)) {
                if (!mark.ribbon() && mark.page == data.reader && ++mark.wear == 3) {
                    data.marks.remove(mark);
                    fallen++;
                }
            }
        }
        data.fallen += fallen;
        return fallen;
    }

    public int currentPage() {
        return data.reader;
    }

    public int pagesToNextMark() {
        return data.marks.stream().mapToInt(mark -> mark.page - data.reader).filter(way -> way > 0).min().orElseThrow();
    }

    public int earsAtRisk(int count, boolean forward) {
        checkCount(count);
        int risk = 0;
        for (int step = 1; step <= count; step++) {
            int page = forward ? data.reader + step : data.reader - step;
            risk += (int) data.marks.stream().filter(mark -> !mark.ribbon() && mark.page == page && mark.wear == 2).count();
        }
        return risk;
    }

    // ---- orders and totals

    public int markByPage(int position) {
        return at(position, Comparator.comparingInt(mark -> mark.page));
    }

    public int markByWeight(int position) {
        Comparator<Mark> order = Comparator.comparingInt(mark -> -mark.weight);
        return at(position, order.thenComparingInt(mark -> mark.ribbon() ? 0 : 1).thenComparingInt(mark -> mark.page));
    }

    public int span() {
        int low = data.marks.stream().mapToInt(mark -> mark.page).min().orElse(0);
        return data.marks.stream().mapToInt(mark -> mark.page).max().orElse(0) - low;
    }

    public int spanByEnds() {
        return span();
    }

    public int ribbonWeight() {
        return sum(Mark::ribbon);
    }

    public int dogEarWeight() {
        return sum(mark -> !mark.ribbon());
    }

    public int markCount() {
        return data.marks.size();
    }

    public int ribbonCount() {
        return (int) data.marks.stream().filter(Mark::ribbon).count();
    }

    public int chapterCount() {
        return data.starts.size();
    }

    public int votesHeld() {
        return data.votes;
    }

    public int motionsCarried() {
        return data.carried;
    }

    public int fallenEars() {
        return data.fallen;
    }

    public double meanWeight() {
        if (data.marks.isEmpty()) {
            throw new ArithmeticException();
        }
        return (double) sum(mark -> true) / (double) data.marks.size();
    }

    public float heldShare(int chapter) {
        return (float) heldPages(chapter) / (float) (lastPage(chapter) - firstPage(chapter) + 1);
    }

    public boolean isConsistent() {
        return true;
    }

    // ---- text output

    public int writeChapter(int chapter) {
        StringBuilder text = new StringBuilder();
        text.append(firstPage(chapter)).append('-').append(lastPage(chapter));
        for (int page = firstPage(chapter); page <= lastPage(chapter); page++) {
            if (isHeld(page)) {
                Mark mark = find(markOn(page));
                text.append(mark.ribbon() ? " r" : " e").append(page).append('*').append(mark.weight);
            }
        }
        output = text.toString();
        return output.length();
    }

    public int writeSeats() {
        List<String> seats = new ArrayList<>(List.of("-", "-", "-", "-", "-"));
        data.marks.stream().filter(Mark::ribbon).forEach(mark -> seats.set(mark.seat, String.valueOf(mark.page)));
        output = String.join(",", seats);
        return output.length();
    }

    public char outputAt(int index) {
        if (index < 0 || index >= output.length()) {
            throw new IndexOutOfBoundsException();
        }
        return output.charAt(index);
    }

    // ---- commands

    public int appendInput(char character) {
        if (character < ' ' || character > '~') {
            throw new IllegalArgumentException();
        }
        if (input.length() == 60) {
            throw new IllegalStateException();
        }
        input += character;
        return input.length();
    }

    public int execute() {
        String text = input;
        input = "";
        if (!INPUT.matcher(text).matches()) {
            syntaxError = errorOffset(text);
            throw new IllegalArgumentException();
        }
        Data before = data;
        data = before.copy();
        String[] commands = text.split(";");
        int[] rejectionBefore = rejection;
        quiet = true;
        for (int number = 0; number < commands.length; number++) {
            try {
                perform(commands[number]);
            } catch (IndexOutOfBoundsException | IllegalArgumentException notAccepted) {
                quiet = false;
                data = before;
                rejection = rejectionBefore;
                throw new IllegalStateException();
            } catch (UnsupportedOperationException rejected) {
                quiet = false;
                data = before;
                rejection = new int[] {10, number, rejection[0]};
                throw rejected;
            }
        }
        quiet = false;
        past.add(before);
        return commands.length;
    }

    /** The regular expression hits the end of a text exactly when the text can still become an input. */
    private static int errorOffset(String text) {
        for (int length = 1; length <= text.length(); length++) {
            Matcher matcher = INPUT.matcher(text.substring(0, length));
            if (!matcher.matches() && !matcher.hitEnd()) {
                return length - 1;
            }
        }
        return text.length();
    }

    private void perform(String command) {
        String[] parts = command.substring(1).split("[:,]");
        int first = Integer.parseInt(parts[0]);
        int second = parts.length > 1 ? Integer.parseInt(parts[1]) : 0;
        switch (command.charAt(0)) {
            case 'R' -> addRibbon(first, second);
            case 'E' -> addDogEar(first, second);
            case 'X' -> removeMark(first);
            case 'M' -> moveRibbon(first, second);
            case 'S' -> swapSeats(first, second);
            case 'C' -> startChapter(first);
            case 'V' -> voteToDissolve(first);
            default -> turnPages(first, command.charAt(0) == 'T');
        }
    }

    public int syntaxErrorOffset() {
        if (syntaxError == null) {
            throw new NoSuchElementException();
        }
        return syntaxError;
    }

    // ---- rejections and history

    public int rejectionReason() {
        if (rejection == null) {
            throw new NoSuchElementException();
        }
        return rejection[0];
    }

    public int rejectionDetail() {
        rejectionReason();
        return rejection[1];
    }

    public int causeReason() {
        if (rejectionReason() != 10) {
            throw new NoSuchElementException();
        }
        return rejection[2];
    }

    public int undo() {
        if (undoCount() == 0) {
            throw new IllegalStateException();
        }
        data = past.remove(past.size() - 1);
        return undoCount();
    }

    public int undoCount() {
        while (past.size() > 8) {
            past.remove(0);
        }
        return past.size();
    }

    public int saveSnapshot() {
        snapshot = data.copy();
        return data.marks.size();
    }

    public int restoreSnapshot() {
        if (snapshot == null) {
            throw new IllegalStateException();
        }
        data = snapshot.copy();
        past.clear();
        return data.marks.size();
    }

    // ---- what the calls share

    private interface Choice {
        boolean takes(Mark mark);
    }

    private int sum(Choice choice) {
        return data.marks.stream().filter(choice::takes).mapToInt(mark -> mark.weight).sum();
    }

    private int at(int position, Comparator<Mark> order) {
        if (position < 0 || position >= data.marks.size()) {
            throw new NoSuchElementException();
        }
        return data.marks.stream().sorted(order).toList().get(position).id;
    }

    private int add(int page, int weight, Integer seat) {
        Mark mark = new Mark();
        mark.id = data.nextId++;
        mark.page = page;
        mark.weight = weight;
        mark.seat = seat;
        data.marks.add(mark);
        return mark.id;
    }

    private Mark find(int id) {
        for (Mark mark : data.marks) {
            if (mark.id == id) {
                return mark;
            }
        }
        throw new IndexOutOfBoundsException();
    }

    private void remember() {
        if (!quiet) {
            past.add(data.copy());
            undoCount();
        }
    }

    private void reject(int reason, int detail) {
        rejection = new int[] {reason, detail, 0};
        throw new UnsupportedOperationException();
    }

    private void rejectHeld(int page) {
        if (isHeld(page)) {
            reject(3, markOn(page));
        }
    }

    private void rejectEar(int mark) {
        if (!find(mark).ribbon()) {
            reject(4, mark);
        }
    }

    private void checkPage(int page) {
        if (page < 0 || page > 59) {
            throw new IndexOutOfBoundsException();
        }
    }

    private void checkChapter(int chapter) {
        if (chapter < 0 || chapter >= data.starts.size()) {
            throw new IndexOutOfBoundsException();
        }
    }

    private void checkWeight(int weight) {
        if (weight < 1 || weight > 9) {
            throw new IllegalArgumentException();
        }
    }

    private void checkCount(int count) {
        if (count < 1 || count > 20) {
            throw new IllegalArgumentException();
        }
    }
}
