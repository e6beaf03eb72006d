/** The term "Commands". */
final class SentencesOfCommands {
    private static final Class<IllegalArgumentException> SYNTAX = IllegalArgumentException.class;
    private static final Class<IllegalStateException> NOT_ACCEPTED = IllegalStateException.class;
    private static final Class<UnsupportedOperationException> REJECTED = UnsupportedOperationException.class;
    private static final String NO_REJECTION = "- - -";
    private static final String NO_SYNTAX_ERROR = "-";

    private SentencesOfCommands() {
    }

    /** Mark 0 a ribbon on page 5 in seat 0, mark 1 a dog ear on page 7, mark 2 a ribbon on page 59 in seat 1. */
    private static BookmarkManager book() {
        return Books.with("R5:3;E7:9", "R59:1");
    }

    private static void executes(Check check, String input, int commands, String state) {
        BookmarkManager book = book();
        check.due(commands, "execute() of \"" + input + "\"", () -> Books.run(book, input));
        check.due(state, "the state after \"" + input + "\"", () -> Books.state(book));
        check.due(NO_SYNTAX_ERROR, "the syntax error of \"" + input + "\"", () -> Books.syntaxError(book));
    }

    private static void syntaxError(Check check, String input, int offset) {
        Refusal.failed(check, SentencesOfCommands::book, SYNTAX, NO_REJECTION, String.valueOf(offset), input);
    }

    private static void notAccepted(Check check, String input) {
        Refusal.failed(check, SentencesOfCommands::book, NOT_ACCEPTED, NO_REJECTION, NO_SYNTAX_ERROR, input);
    }

    private static void rejected(Check check, String input, String rejection) {
        Refusal.failed(check, SentencesOfCommands::book, REJECTED, rejection, NO_SYNTAX_ERROR, input);
    }

    @Sentence(of = "Terms, Commands", says = "The input has one or more commands, with \";\" between two of them.")
    static void input(Check check) {
        syntaxError(check, "", 0);
        executes(check, "T1", 1, "0r5*3w0s0 1e7*9w0 2r59*1w0s1 | 0 | reader 1 votes 0 0 fallen 0");
        executes(check, "T1;T1", 2, "0r5*3w0s0 1e7*9w0 2r59*1w0s1 | 0 | reader 2 votes 0 0 fallen 0");
        executes(check, "T1;T1;T1;T1;T1;B1;B1;B1;B1;B1;T1;T1;T1;B1;B1;B1;T1;T1;T1;T1", 20,
            "0r5*3w0s0 1e7*9w0 2r59*1w0s1 | 0 | reader 4 votes 0 0 fallen 0");
        syntaxError(check, ";", 0);
        syntaxError(check, ";T1", 0);
        syntaxError(check, "T1;", 3);
        syntaxError(check, "T1;;T1", 3);
        syntaxError(check, "T1T1", 2);
        syntaxError(check, "T1,T1", 2);
        syntaxError(check, "T1:T1", 2);
        syntaxError(check, "T1 ;T1", 2);
        syntaxError(check, "T1; T1", 3);
    }

    @Sentence(of = "Terms, Commands",
        says = "\"R\" or \"E\", a number, \":\" and a digit adds a ribbon or a dog ear to a page with a weight.")
    static void add(Check check) {
        executes(check, "R0:1", 1, "3r0*1w0s2 0r5*3w0s0 1e7*9w0 2r59*1w0s1 | 0 | reader 0 votes 0 0 fallen 0");
        executes(check, "E0:9", 1, "3e0*9w0 0r5*3w0s0 1e7*9w0 2r59*1w0s1 | 0 | reader 0 votes 0 0 fallen 0");
        executes(check, "X2;R59:9", 2, "0r5*3w0s0 1e7*9w0 3r59*9w0s1 | 0 | reader 0 votes 0 0 fallen 0");
        executes(check, "X2;E59:1", 2, "0r5*3w0s0 1e7*9w0 3e59*1w0 | 0 | reader 0 votes 0 0 fallen 0");
        for (String kind : new String[] {"R", "E"}) {
            notAccepted(check, kind + "60:1");
            notAccepted(check, kind + "999:1");
            notAccepted(check, kind + "8:0");
            rejected(check, kind + "7:1", "10 0 3");
            syntaxError(check, kind, 1);
            syntaxError(check, kind + ":1", 1);
            syntaxError(check, kind + "8", 2);
            syntaxError(check, kind + "8,1", 2);
            syntaxError(check, kind + "8:", 3);
            syntaxError(check, kind + "8:/", 3);
            syntaxError(check, kind + "8::", 3);
            syntaxError(check, kind + "8:10", 4);
            syntaxError(check, kind.toLowerCase() + "8:1", 0);
        }
    }

    @Sentence(of = "Terms, Commands", says = "\"X\" and a number removes a mark.")
    static void remove(Check check) {
        executes(check, "X0", 1, "1e7*9w0 2r59*1w0s1 | 0 | reader 0 votes 0 0 fallen 0");
        executes(check, "X2", 1, "0r5*3w0s0 1e7*9w0 | 0 | reader 0 votes 0 0 fallen 0");
        executes(check, "X2;X1;X0", 3, "| 0 | reader 0 votes 0 0 fallen 0");
        executes(check, "E8:1;X3", 2, "0r5*3w0s0 1e7*9w0 2r59*1w0s1 | 0 | reader 0 votes 0 0 fallen 0");
        notAccepted(check, "X3");
        notAccepted(check, "X999");
        notAccepted(check, "X0;X0");
        syntaxError(check, "X", 1);
        syntaxError(check, "X-", 1);
        syntaxError(check, "X0:", 2);
        syntaxError(check, "x0", 0);
    }

    @Sentence(of = "Terms, Commands", says = "\"M\", a number, \":\" and a number moves a ribbon to a page.")
    static void move(Check check) {
        executes(check, "M2:0", 1, "2r0*1w0s1 0r5*3w0s0 1e7*9w0 | 0 | reader 0 votes 0 0 fallen 0");
        executes(check, "X2;M0:59", 2, "1e7*9w0 0r59*3w0s0 | 0 | reader 0 votes 0 0 fallen 0");
        notAccepted(check, "M3:0");
        notAccepted(check, "M0:60");
        notAccepted(check, "M1:60");
        rejected(check, "M1:0", "10 0 4");
        rejected(check, "M0:5", "10 0 3");
        rejected(check, "M0:7", "10 0 3");
        syntaxError(check, "M", 1);
        syntaxError(check, "M0", 2);
        syntaxError(check, "M0,1", 2);
        syntaxError(check, "M0:", 3);
        syntaxError(check, "M0:x", 3);
        syntaxError(check, "M0:1:", 4);
        syntaxError(check, "m0:1", 0);
    }

    @Sentence(of = "Terms, Commands", says = "\"S\", a number, \",\" and a number exchanges the seats of two ribbons.")
    static void swap(Check check) {
        executes(check, "S0,2", 1, "0r5*3w0s1 1e7*9w0 2r59*1w0s0 | 0 | reader 0 votes 0 0 fallen 0");
        executes(check, "S2,0", 1, "0r5*3w0s1 1e7*9w0 2r59*1w0s0 | 0 | reader 0 votes 0 0 fallen 0");
        notAccepted(check, "S0,3");
        notAccepted(check, "S3,0");
        notAccepted(check, "S1,3");
        rejected(check, "S0,1", "10 0 4");
        rejected(check, "S1,0", "10 0 4");
        rejected(check, "S2,2", "10 0 5");
        syntaxError(check, "S", 1);
        syntaxError(check, "S0", 2);
        syntaxError(check, "S0:2", 2);
        syntaxError(check, "S0,", 3);
        syntaxError(check, "S0,2,", 4);
        syntaxError(check, "s0,2", 0);
    }

    @Sentence(of = "Terms, Commands", says = "\"C\" and a number starts a chapter on a page.")
    static void start(Check check) {
        executes(check, "C1", 1, "0r5*3w0s0 1e7*9w0 2r59*1w0s1 | 0 1 | reader 0 votes 0 0 fallen 0");
        executes(check, "C59", 1, "0r5*3w0s0 1e7*9w0 2r59*1w0s1 | 0 59 | reader 0 votes 0 0 fallen 0");
        executes(check, "C7;C6;C5;C4;C3;C2;C1", 7,
            "0r5*3w0s0 1e7*9w0 2r59*1w0s1 | 0 1 2 3 4 5 6 7 | reader 0 votes 0 0 fallen 0");
        notAccepted(check, "C60");
        notAccepted(check, "C999");
        rejected(check, "C0", "10 0 7");
        rejected(check, "C1;C2;C3;C4;C5;C6;C7;C8", "10 7 6");
        syntaxError(check, "C", 1);
        syntaxError(check, "C;", 1);
        syntaxError(check, "C1:", 2);
        syntaxError(check, "c1", 0);
    }

    @Sentence(of = "Terms, Commands",
        says = "\"V\" and a digit holds a vote on the dissolution of a chapter; a motion that is not carried does not make the command fail.")
    static void vote(Check check) {
        executes(check, "C8;V1", 2, "0r5*3w0s0 1e7*9w0 2r59*1w0s1 | 0 8 | reader 0 votes 1 0 fallen 0");
        executes(check, "C8;V0;V1;T1", 4, "0r5*3w0s0 1e7*9w0 2r59*1w0s1 | 0 8 | reader 1 votes 2 0 fallen 0");
        executes(check, "X1;C8;V1", 3, "0r5*3w0s0 2r59*1w0s1 | 0 | reader 0 votes 1 1 fallen 0");
        executes(check, "X1;C1;C2;C3;C4;C9;C11;C12;V7", 9,
            "0r5*3w0s0 2r59*1w0s1 | 0 1 2 3 4 9 11 | reader 0 votes 1 1 fallen 0");
        notAccepted(check, "V1");
        notAccepted(check, "C1;C2;C3;C4;C5;C6;C7;V8");
        notAccepted(check, "C8;V9");
        rejected(check, "V0", "10 0 8");
        rejected(check, "X1;C8;V1;V0", "10 3 8");
        syntaxError(check, "V", 1);
        syntaxError(check, "V00", 2);
        syntaxError(check, "C8;V10", 5);
        syntaxError(check, "v0", 0);
    }

    @Sentence(of = "Terms, Commands", says = "\"T\" and a number turns pages forward, and \"B\" and a number turns pages backward.")
    static void turn(Check check) {
        executes(check, "T1", 1, "0r5*3w0s0 1e7*9w0 2r59*1w0s1 | 0 | reader 1 votes 0 0 fallen 0");
        executes(check, "T20", 1, "0r5*3w0s0 1e7*9w1 2r59*1w0s1 | 0 | reader 20 votes 0 0 fallen 0");
        executes(check, "T20;T20;T19", 3, "0r5*3w0s0 1e7*9w1 2r59*1w0s1 | 0 | reader 59 votes 0 0 fallen 0");
        executes(check, "T20;B1", 2, "0r5*3w0s0 1e7*9w1 2r59*1w0s1 | 0 | reader 19 votes 0 0 fallen 0");
        executes(check, "T20;B20", 2, "0r5*3w0s0 1e7*9w2 2r59*1w0s1 | 0 | reader 0 votes 0 0 fallen 0");
        executes(check, "T7;B1;T1;B1;T1", 5, "0r5*3w0s0 2r59*1w0s1 | 0 | reader 7 votes 0 0 fallen 1");
        for (String kind : new String[] {"T", "B"}) {
            notAccepted(check, kind + "0");
            notAccepted(check, kind + "21");
            notAccepted(check, "T20;" + kind + "21");
            notAccepted(check, kind + "999");
            syntaxError(check, kind, 1);
            syntaxError(check, kind + "-1", 1);
            syntaxError(check, kind + "1.", 2);
            syntaxError(check, kind.toLowerCase() + "1", 0);
        }
        rejected(check, "B1", "10 0 9");
        rejected(check, "T3;B4", "10 1 9");
        rejected(check, "T20;T20;T19;T1", "10 3 9");
    }

    @Sentence(of = "Terms, Commands", says = "A number has one to three digits.")
    static void digits(Check check) {
        String[] before = {"R", "E", "X", "M", "M0:", "S", "S0,", "C", "T", "T20;B"};
        String[] after = {":1", ":1", "", ":9", "", ",0", "", "", "", ""};
        for (int index = 0; index < before.length; index++) {
            String head = before[index];
            String tail = after[index];
            int commands = head.contains(";") ? 2 : 1;
            for (String number : new String[] {"2", "02", "002"}) {
                check.due(commands, "execute() of " + head + number + tail, () -> Books.run(book(), head + number + tail));
            }
            syntaxError(check, head + tail, head.length());
            syntaxError(check, head + "0002" + tail, head.length() + 3);
        }
        BookmarkManager turned = Books.with("T020");
        check.due(20, "currentPage() after T020", turned::currentPage);
        notAccepted(check, "T200");
        notAccepted(check, "T120");
        BookmarkManager many = new BookmarkManager();
        for (int mark = 0; mark < 100; mark++) {
            many.addDogEar(mark % 2, 1);
            many.removeMark(mark);
        }
        check.due(100, "addDogEar(0, 1)", () -> many.addDogEar(0, 1));
        check.due(1, "execute() of X100", () -> Books.run(many, "X100"));
        check.due(0, "markCount()", many::markCount);
    }

    @Sentence(of = "Terms, Commands",
        says = "The offset of a syntax error is the index of the first character that cannot follow the characters ahead of it in any input; it is the length of the input if the input ends too early.")
    static void offset(Check check) {
        String[] early = {"", "R", "R1", "R12", "R123", "R1:", "R123:", "E", "E999", "E0:", "X", "M", "M1", "M123", "M1:", "S",
            "S1", "S123", "S1,", "C", "V", "T", "B", "R1:1;", "T1;T1;T1;", "T1;R1", "V0;V"};
        for (String input : early) {
            syntaxError(check, input, input.length());
        }
        String[] wrong = {"~", " ", "0", ":", ",", ";", "A", "Q", "RR", "R:", "R;", "R1;", "R1,", "R1 ", "R1234", "R1:;", "R1:R",
            "R1:12", "R1:1:", "R1:1 ", "E;", "E1E", "E1:/", "E1::", "X;", "X1:", "X1,", "X1234", "M;", "M1;", "M1,", "M1:;",
            "M1:1:", "M1:1234", "M1234", "S;", "S1:", "S1;", "S1,;", "S1,1,", "S1,1234", "C;", "C1C", "C1234", "V;", "V0V",
            "V01", "T;", "T1T", "T1234", "B;", "B1B", "B1234", "T1;;", "T1;1", "T1;T1; ", "T1;R1:0;z"};
        for (String input : wrong) {
            syntaxError(check, input, input.length() - 1);
            syntaxError(check, input + "1;T1", input.length() - 1);
        }
        syntaxError(check, "T1;".repeat(20), 60);
        syntaxError(check, "T1;".repeat(19) + "T1x", 59);
        syntaxError(check, "x1;" + "T1;".repeat(19), 0);
    }
}
