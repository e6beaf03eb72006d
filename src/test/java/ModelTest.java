import java.lang.reflect.InvocationTargetException;
import java.lang.reflect.Method;
import java.util.ArrayList;
import java.util.HashMap;
import java.util.List;
import java.util.Map;

/**
 * Many runs of calls, chosen by a fixed series of numbers, on a book and on the model of the document;
 * both answer alike. No object is called more often than the document allows.
 */
public final class ModelTest {
    private static final int RUNS = 10000;
    private static final int MOST_CALLS = 512;
    private static final int CALLS_FOR_CLOSING_LOOK = 200;
    private static final int MOST_TOLD = 10;
    private static final List<String> CHANGES = List.of("addRibbon", "addDogEar", "removeMark", "moveRibbon",
        "swapSeats", "startChapter", "voteToDissolve", "turnPages");

    private static final Map<String, Method> OF_BOOK = methods(BookmarkManager.class);
    private static final Map<String, Method> OF_MODEL = methods(Model.class);
    private static final List<String> NAMES = OF_BOOK.keySet().stream().sorted().toList();
    private static final Check CHECK = new Check("ModelTest");
    private static long series = 20261119L;
    private static int told = 0;

    private final BookmarkManager book = new BookmarkManager();
    private final Model model = new Model();
    private final List<String> calls = new ArrayList<>();
    private final int lastPage;
    private final int changesInTen;
    private final boolean turnsOften;
    private boolean differs = false;

    private ModelTest() {
        int[] lastPages = {5, 13, 25, 59};
        lastPage = lastPages[below(4)];
        changesInTen = 3 + below(6);
        turnsOften = below(3) == 0;
    }

    public static void main(String[] args) {
        for (int run = 0; run < RUNS && told < MOST_TOLD; run++) {
            new ModelTest().run();
        }
        CHECK.end();
    }

    private static Map<String, Method> methods(Class<?> type) {
        Map<String, Method> methods = new HashMap<>();
        for (Method method : type.getDeclaredMethods()) {
            if (java.lang.reflect.Modifier.isPublic(method.getModifiers())) {
                methods.put(method.getName(), method);
            }
        }
        return methods;
    }

    /** A number from 0 to bound - 1, the next one of a fixed series. */
    private static int below(int bound) {
        series = series * 6364136223846793005L + 1442695040888963407L;
        return (int) Math.floorMod(series >>> 33, (long) bound);
    }

    private static boolean rarely() {
        return below(25) == 0;
    }

    private void run() {
        while (calls.size() < MOST_CALLS - CALLS_FOR_CLOSING_LOOK && !differs) {
            int choice = below(10);
            if (choice < changesInTen) {
                change();
            } else if (choice == 9) {
                history();
            } else {
                ask(NAMES.get(below(NAMES.size())));
            }
        }
        closingLook();
    }

    private void change() {
        if (turnsOften && below(2) == 0) {
            ask("turnPages");
        } else if (below(6) == 0) {
            commands();
        } else {
            ask(CHANGES.get(below(CHANGES.size())));
        }
    }

    private void history() {
        String[] names = {"undo", "undo", "undo", "undoCount", "saveSnapshot", "restoreSnapshot", "isConsistent"};
        ask(names[below(names.length)]);
        if (rarely()) {
            for (int times = below(9); times > 0; times--) {
                ask("undo");
            }
        }
    }

    private void commands() {
        String text = script();
        for (int index = 0; index < text.length() && calls.size() < MOST_CALLS - CALLS_FOR_CLOSING_LOOK; index++) {
            same("appendInput", text.charAt(index));
        }
        same("execute");
        ask(below(2) == 0 ? "syntaxErrorOffset" : "causeReason");
        ask("rejectionDetail");
    }

    private String script() {
        StringBuilder text = new StringBuilder();
        for (int number = below(below(3) == 0 ? 12 : 4); number >= 0; number--) {
            text.append(command()).append(number > 0 ? ";" : "");
        }
        if (below(6) == 0 && text.length() > 0) {
            text.setCharAt(below(text.length()), "REXMSCVTB;:,0123456789 r~".charAt(below(25)));
        }
        if (below(10) == 0) {
            text.setLength(below(text.length() + 1));
        }
        return text.length() > 63 ? text.substring(0, 63) : text.toString();
    }

    private String command() {
        int digit = rarely() ? 0 : 1 + below(9);
        switch (below(9)) {
            case 0:
                return "R" + number(page()) + ":" + digit;
            case 1:
                return "E" + number(page()) + ":" + digit;
            case 2:
                return "X" + number(mark());
            case 3:
                return "M" + number(mark()) + ":" + number(page());
            case 4:
                return "S" + number(mark()) + "," + number(mark());
            case 5:
                return "C" + number(page());
            case 6:
                return "V" + (chapter() & 7);
            case 7:
                return "T" + number(count());
            default:
                return "B" + number(count());
        }
    }

    private static String number(int value) {
        String digits = String.valueOf(value & 1023);
        return rarely() && digits.length() < 3 ? "0" + digits : digits;
    }

    private int odd() {
        int[] values = {-1, 60, 61, 999, Integer.MAX_VALUE, Integer.MIN_VALUE, Integer.MAX_VALUE - 19, 12, -20};
        return values[below(values.length)];
    }

    private int page() {
        return rarely() ? odd() : below(lastPage + 1);
    }

    private int mark() {
        int count = model.markCount();
        if (count == 0 || below(12) == 0) {
            return rarely() ? odd() : below(30) - 1;
        }
        return model.markByPage(below(count));
    }

    private int chapter() {
        return rarely() ? odd() : below(model.chapterCount() + (rarely() ? 2 : 0));
    }

    private int count() {
        if (rarely()) {
            return below(2) == 0 ? odd() : below(2) * 21;
        }
        return 1 + below(Math.min(20, lastPage));
    }

    /** Asks both with arguments that fit the name. */
    private void ask(String name) {
        switch (name) {
            case "addRibbon", "addDogEar" -> same(name, page(), rarely() ? below(14) - 2 : 1 + below(9));
            case "moveRibbon" -> same(name, mark(), page());
            case "swapSeats" -> same(name, mark(), mark());
            case "turnPages" -> same(name, count(), model.currentPage() < lastPage && (turnsOften || below(3) > 0));
            case "earsAtRisk" -> same(name, count(), below(2) == 0);
            case "markByPage", "markByWeight" -> same(name, rarely() ? odd() : below(13));
            case "ribbonIn" -> same(name, rarely() ? odd() : below(5));
            case "outputAt" -> same(name, rarely() ? odd() : below(20));
            case "appendInput" -> same(name, (char) (rarely() ? below(65536) : 31 + below(97)));
            case "removeMark", "isRibbon", "pageOf", "weightOf", "wearOf", "seatOf" -> same(name, mark());
            case "isHeld", "markOn", "nextMark", "previousMark", "nearestMark", "chapterOf", "startChapter" ->
                same(name, page());
            default -> same(name, OF_BOOK.get(name).getParameterCount() == 0 ? new Object[0] : new Object[] {chapter()});
        }
    }

    private void closingLook() {
        for (int position = 0; position < model.markCount(); position++) {
            same("markByPage", position);
            same("markByWeight", position);
            int mark = model.markByPage(position);
            same("pageOf", mark);
            same("weightOf", mark);
            same("wearOf", mark);
            same("seatOf", mark);
        }
        for (int chapter = 0; chapter < model.chapterCount(); chapter++) {
            same("firstPage", chapter);
            same("weightAgainst", chapter);
            same("heldShare", chapter);
            same("wouldDissolve", chapter);
        }
        for (String name : NAMES) {
            if (OF_BOOK.get(name).getParameterCount() == 0 && !name.equals("execute") && !name.equals("restoreSnapshot")) {
                same(name);
            }
        }
        ask("writeChapter");
        for (int index = 0; index < 30; index++) {
            same("outputAt", index);
        }
    }

    private void same(String name, Object... arguments) {
        if (differs) {
            return;
        }
        if (calls.size() >= MOST_CALLS) {
            return;
        }
        calls.add(name + List.of(arguments));
        Object want = answer(OF_MODEL.get(name), model, arguments);
        Object got = answer(OF_BOOK.get(name), book, arguments);
        CHECK.compare(want, calls.get(calls.size() - 1), got);
        if (!want.equals(got)) {
            differs = true;
            told++;
            System.out.println("  after " + calls);
        }
    }

    private static Object answer(Method method, Object object, Object... arguments) {
        try {
            return method.invoke(object, arguments);
        } catch (InvocationTargetException thrown) {
            return thrown.getCause().getClass().getName();
        } catch (IllegalAccessException never) {
            throw new IllegalStateException(never);
        }
    }
}
