import java.util.List;

/** Promises 51 to 58, and the terms' sentences about commands. */
final class TextBoundaries extends Boundary {
    private static final String COMMANDS = "command = \"report \" source number \"=\" amount | \"take \" source number \"=\" "
            + "amount | \"close\" | \"reject\" | \"settle \" source number | \"drop \" source number | \"days \" amount";
    private static final String ERROR_POSITION = "The error position of a malformed program is the index of the first "
            + "character that no valid program can have there after the characters before it, or the length of the program "
            + "if it is a proper prefix of a valid program.";
    private static final String LENGTH = "Returns the length of the line.";
    private static final String SIXTY = "report a001=01;report b002=02;report c003=03;days 99;days 99";
    private static final String TEN = "close;close;close;close;close;close;close;close;close;close";
    private static final String[] EACH_COMMAND = {"report a1=1", "take b22=33", "close", "reject", "settle c333",
        "drop a0", "days 9"};

    private TextBoundaries() {
    }

    static void go() {
        formatRecord();
        formatKey();
        formatBatch();
        lineChar();
        append();
        grammar();
        numbers();
        keywords();
        errorPositions();
        run();
        runThrows();
        errorPosition();
        failedCommand();
        noRecord(51, RecordReconciler::formatRecord);
        noKey(52, RecordReconciler::formatKey);
        plain(0, "Commands.", "A program in the input buffer has this grammar, where { x } means zero or more repetitions of "
                + "x and a vertical bar separates alternatives:");
        plain(54, "Returns the character.");
        plain(55, "`character`: the character");
        plain(57, "Returns the stored error position.");
        plain(58, "Returns the stored index of a failed command.");
    }

    private static String formatted(RecordReconciler x, Question format) {
        return format.ask(x) + " '" + Views.line(x) + "'";
    }

    private static void line(String what, Scene scene, String due, Question format) {
        answers(what, scene, due.length() + " '" + due + "'", x -> formatted(x, format));
    }

    private static void formatRecord() {
        Scene late = repeated(400, x -> x.pass(99));
        test(51, "Formats a counted record into the line, replacing the previous line: the source, the key, \"=\", its "
                + "amount, \" @\" and its day.", () -> {
            line("the shortest one", counted("a0=1"), "a0=1 @0", x -> x.formatRecord('a', 0));
            line("two digits", counted("b10=10").then(x -> x.pass(9)).then(counted("b10=9")), "b10=9 @10",
                    x -> x.formatRecord('b', 10));
            line("a long one", late.then(counted("c999=99")), "c999=99 @39600", x -> x.formatRecord('c', 999));
            line("a shorter one after it", late.then(counted("c999=99 a0=1")).then(x -> x.formatRecord('c', 999)),
                    "a0=1 @39600", x -> x.formatRecord('a', 0));
            line("twice", counted("a0=1").then(x -> x.formatRecord('a', 0)), "a0=1 @0", x -> x.formatRecord('a', 0));
            line("after a key's line", counted("a0=1").then(x -> x.formatKey(0)), "a0=1 @0", x -> x.formatRecord('a', 0));
        });
        test(51, "An example is \"a17=40 @3\".", () ->
                line("it", repeated(3, x -> x.pass(1)).then(counted("a17=40")), "a17=40 @3", x -> x.formatRecord('a', 17)));
        test(51, LENGTH, () -> {
            answers("7", counted("a0=1"), 7, x -> x.formatRecord('a', 0));
            answers("14", late.then(counted("c999=99")), 14, x -> x.formatRecord('c', 999));
        });
    }

    private static void formatKey() {
        test(52, "Formats a key into the line, replacing the previous line: the key, \":\", for each counted record in the "
                + "order of sources \" \", the source and the amount; then \" confirmed\", \" disputed\" and, after a disputed "
                + "one, \" ~\" and the accepted amount, or \" open\".", () -> {
            line("one source, the first", counted("a0=1"), "0: a1 open", x -> x.formatKey(0));
            line("one source, the last", counted("c0=1"), "0: c1 open", x -> x.formatKey(0));
            line("two that agree", counted("c9=9 b9=9"), "9: b9 c9 confirmed", x -> x.formatKey(9));
            line("two that do not", counted("c9=9 a9=10"), "9: a10 c9 disputed ~9", x -> x.formatKey(9));
            line("three that agree", counted("c999=99 b999=99 a999=99"), "999: a99 b99 c99 confirmed", x -> x.formatKey(999));
            line("the longest one", counted("c999=97 b999=98 a999=99"), "999: a99 b98 c97 disputed ~97",
                    x -> x.formatKey(999));
            line("a shorter one after it", counted("c999=97 b999=98 a999=99 b0=1").then(x -> x.formatKey(999)), "0: b1 open",
                    x -> x.formatKey(0));
            line("not the open batch", counted("a0=1").then(reported("b0=1")), "0: a1 open", x -> x.formatKey(0));
        });
        test(52, "An example is \"17: a40 c41 disputed ~40\".", () ->
                line("it", counted("c17=41 a17=40"), "17: a40 c41 disputed ~40", x -> x.formatKey(17)));
        test(52, LENGTH, () -> {
            answers("10", counted("a0=1"), 10, x -> x.formatKey(0));
            answers("29", counted("c999=97 b999=98 a999=99"), 29, x -> x.formatKey(999));
        });
    }

    private static String dozen(String part) {
        return (part + " ").repeat(12).trim();
    }

    private static void formatBatch() {
        test(53, "Formats the open batch into the line, replacing the previous line: for each report in order the source, "
                + "the key, \"=\", the amount and the letter of outcomeOf, with a blank between two reports.", () -> {
            line("no report", EMPTY, "", RecordReconciler::formatBatch);
            line("one", reported("a0=1"), "a0=1n", RecordReconciler::formatBatch);
            line("two", reported("a0=1 a0=1"), "a0=1n a0=1d", RecordReconciler::formatBatch);
            line("twelve", counted("c999=98").then(reported(dozen("c999=99"))), "c999=99c" + " c999=99d".repeat(11),
                    RecordReconciler::formatBatch);
            line("no report after twelve", reported(dozen("c999=99")).then(RecordReconciler::formatBatch)
                    .then(RecordReconciler::closeBatch), "", RecordReconciler::formatBatch);
            line("the order in which they arrived", reported("c9=1 a5=2 c9=2 b0=99"), "c9=1n a5=2n c9=2c b0=99n",
                    RecordReconciler::formatBatch);
            line("more than can be closed", FULL.then(reported("a999=1 a999=1 b999=1")), "a999=1n a999=1d b999=1n",
                    RecordReconciler::formatBatch);
        });
        test(53, LENGTH, () -> {
            answers("0", EMPTY, 0, RecordReconciler::formatBatch);
            answers("5", reported("a0=1"), 5, RecordReconciler::formatBatch);
            answers("11", reported("a0=1 a0=1"), 11, RecordReconciler::formatBatch);
            answers("107", reported(dozen("c999=99")), 107, RecordReconciler::formatBatch);
        });
    }

    private static void lineChar() {
        Scene shortest = counted("a0=1").then(x -> x.formatRecord('a', 0));
        Scene longest = reported(dozen("c999=99")).then(RecordReconciler::formatBatch);
        test(54, "Returns a character of the line, which is empty at first.", () -> {
            refusedAsItIs("at first", counted("a0=1").then(reported("b1=1")), INDEX, x -> x.lineChar(0));
            answers("then not", shortest, "a0=1 @0", Views::line);
            answers("a format that is refused leaves it", shortest.then(x -> Checks.outcome(() -> x.formatKey(1))), "a0=1 @0",
                    Views::line);
        });
        test(54, "`index`: the index, starting at 0", () -> {
            answers("0", longest, 'c', x -> x.lineChar(0));
            answers("1", longest, '9', x -> x.lineChar(1));
            answers("105", longest, '9', x -> x.lineChar(105));
            answers("106", longest, 'd', x -> x.lineChar(106));
            refusedAsItIs("-1", longest, INDEX, x -> x.lineChar(-1));
        });
        test(54, "Throws `IndexOutOfBoundsException` if the index is negative or not less than the length of the line", () -> {
            lineOf(EMPTY, 0);
            lineOf(shortest, 7);
            lineOf(longest, 107);
            lineOf(longest.then(RecordReconciler::rejectBatch).then(shortest), 7);
            lineOf(shortest.then(longest), 107);
            lineOf(longest.then(RecordReconciler::rejectBatch).then(RecordReconciler::formatBatch), 0);
            lineOf(longest.then(RecordReconciler::rejectBatch), 107);
        });
    }

    /** Not in a busy object, which has a line of its own. */
    private static void lineOf(Scene scene, int length) {
        for (int index : new int[] {Integer.MIN_VALUE, -1, 0, length - 1, length, length + 1, Integer.MAX_VALUE}) {
            if (index >= 0 && index < length) {
                neverThrows(index + " of " + length, scene, INDEX, x -> x.lineChar(index));
            } else {
                refusedAsItIs(index + " of " + length, scene, INDEX, x -> x.lineChar(index));
            }
        }
    }

    private static void append() {
        Scene almost = typed(SIXTY.substring(0, 59));
        Scene full = typed(SIXTY);
        test(55, "The input buffer holds up to 60 characters.", () -> {
            answers("59", typed(SIXTY.substring(0, 58)), 59, x -> x.append('9'));
            answers("60", almost, 60, x -> x.append('9'));
            refusedAsItIs("61", full, STATE, x -> x.append('9'));
            answers("all 60 are there", full, "5 198", x -> x.run() + " " + x.day());
            answers("60 again after run", full.then(RecordReconciler::run).then(typed(SIXTY.substring(0, 59))), 60,
                    x -> x.append('9'));
            refusedAsItIs("61 again after run", full.then(RecordReconciler::run).then(typed(SIXTY)), STATE,
                    x -> x.append('9'));
        });
        test(55, "Appends a character to the input buffer.", () -> {
            answers("the order", ran("days 12"), 12, RecordReconciler::day);
            answers("the other order", ran("days 21"), 21, RecordReconciler::day);
            answers("the 60th behind the 59th", almost.then(x -> x.append('8')).then(RecordReconciler::run), 99 + 98,
                    RecordReconciler::day);
        });
        test(55, "Returns the number of characters in the buffer.", () -> {
            for (int number = 0; number < 60; number++) {
                answers("" + (number + 1), typed("x".repeat(number)), number + 1, x -> x.append('y'));
            }
        });
        test(55, "Throws `IllegalArgumentException` if the character is not in the range from ' ' to '~'", () -> {
            for (char character : new char[] {' ', '!', '}', '~'}) {
                answers("" + (int) character, EMPTY, 1, x -> x.append(character));
                answers("" + (int) character + " as the 60th", almost, 60, x -> x.append(character));
            }
            for (char character : new char[] {31, 127, 0, '\n', '\t', 128, ' ' + 256, 65535}) {
                refused("" + (int) character, EMPTY, ARGUMENT, x -> x.append(character));
                refusedAsItIs("" + (int) character + " as the 60th", almost, ARGUMENT, x -> x.append(character));
                refusedAsItIs("" + (int) character + " as the 61st", full, ARGUMENT, x -> x.append(character));
            }
        });
        test(55, "Throws `IllegalStateException` if the buffer contains 60 characters", () -> {
            neverThrows("59", almost, STATE, x -> x.append('9'));
            for (char character : new char[] {' ', '~', '9'}) {
                refusedAsItIs("60", full, STATE, x -> x.append(character));
            }
            refusedAsItIs("60 blanks", typed(" ".repeat(60)), STATE, x -> x.append(' '));
            answers("none after run", full.then(RecordReconciler::run), 1, x -> x.append('9'));
            answers("none after a malformed program", ran("x".repeat(60)), 1, x -> x.append('9'));
        });
    }

    /** A valid program, though its commands may fail. */
    private static void valid(String program) {
        String ended = outcome(typed(program), RecordReconciler::run);
        same("valid '" + program + "'", ended.equals("throws IllegalArgumentException"), false);
    }

    private static void malformed(String program, int position) {
        Scene scene = typed(program);
        answers("malformed '" + program + "'", scene, "throws IllegalArgumentException", RecordReconciler::run);
        answers("position in '" + program + "'", ran(program), position, RecordReconciler::errorPosition);
    }

    private static void grammar() {
        test(56, "program = command { \";\" command }", () -> {
            malformed("", 0);
            malformed(";", 0);
            answers("one", typed("close"), 1, RecordReconciler::run);
            malformed("close;", 6);
            answers("two", typed("close;close"), 2, RecordReconciler::run);
            malformed("close;;close", 6);
            malformed(";close", 0);
            malformed("close close", 5);
            malformed("closeclose", 5);
            malformed("close; close", 6);
            malformed("close ;close", 5);
            answers("ten", typed(TEN), 10, RecordReconciler::run);
            malformed(TEN + ";", 60);
        });
        test(56, COMMANDS, () -> {
            for (String command : EACH_COMMAND) {
                valid(command);
                valid(command + ";" + command);
                malformed(command + " ", command.length());
                malformed(" " + command, 0);
            }
            malformed("eport a1=1", 0);
            malformed("rop a1", 1);
            malformed("report a1 =1", 9);
            malformed("report a1= 1", 10);
            malformed("report a 1=1", 8);
            malformed("report a1:1", 9);
            malformed("report a1", 9);
            malformed("take a1", 7);
            malformed("settle a1=1", 9);
            malformed("drop a1=1", 7);
            malformed("days a1", 5);
            malformed("days 1=1", 6);
            malformed("close a1", 5);
            malformed("reject 1", 6);
        });
        test(56, "source = \"a\" | \"b\" | \"c\"", () -> {
            for (String command : new String[] {"report @1=1", "take @1=1", "settle @1", "drop @1"}) {
                for (char source : SOURCES) {
                    valid(command.replace('@', source));
                }
                for (char source : new char[] {'`', 'd', 'A', 'C', '1', ' ', '@'}) {
                    malformed(command.replace('@', source), command.indexOf('@'));
                }
                malformed(command.replace("@", ""), command.indexOf('@'));
                malformed(command.replace("@", "ab"), command.indexOf('@') + 1);
            }
        });
        test(56, "The commands correspond to the methods report, withdraw (take), closeBatch, rejectBatch, settle, drop and "
                + "pass, with the arguments in the same order.", () -> {
            same("report", whole(ran("report b17=9")), whole(x -> x.report('b', 17, 9)));
            same("take", whole(reported("b17=9 b9=17").then(ran("take b9=17"))),
                    whole(reported("b17=9 b9=17").then(x -> x.withdraw('b', 9, 17))));
            same("close", whole(reported("b17=9").then(ran("close"))), whole(reported("b17=9").then(RecordReconciler::closeBatch)));
            same("reject", whole(reported("b17=9").then(ran("reject"))),
                    whole(reported("b17=9").then(RecordReconciler::rejectBatch)));
            Scene disputes = counted("a17=1 b17=2 c17=3 a9=1 b9=2");
            same("settle", whole(disputes.then(ran("settle b17"))), whole(disputes.then(x -> x.settle('b', 17))));
            same("drop", whole(disputes.then(ran("drop b17"))), whole(disputes.then(x -> x.drop('b', 17))));
            same("days", whole(disputes.then(ran("days 17"))), whole(disputes.then(x -> x.pass(17))));
            same("ends", whole(ran("report a0=1;report c999=99;close;days 99")), whole(ran("report a000=01;report c999=99;"
                    + "close;days 99")));
        });
    }

    private static void numbers() {
        test(56, "number = digit | digit digit | digit digit digit", () -> {
            for (String command : new String[] {"report a@=1", "take a@=1", "settle a@", "drop a@"}) {
                int place = command.indexOf('@');
                malformed(command.replace("@", ""), place);
                for (String number : new String[] {"0", "9", "00", "09", "10", "99", "000", "009", "099", "100", "999"}) {
                    valid(command.replace("@", number));
                }
                for (String number : new String[] {"1000", "0000", "9999"}) {
                    malformed(command.replace("@", number), place + 3);
                }
                for (String number : new String[] {"/", ":", "-1", "+1", "a", " 1"}) {
                    malformed(command.replace("@", number), place);
                    malformed(command.replace("@", "1" + number), place + 1);
                    malformed(command.replace("@", "12" + number), place + 2);
                }
            }
            for (String number : new String[] {"7", "07", "007", "0", "00", "000", "99", "099", "999"}) {
                answers("value of " + number, ran("report b" + number + "=5"), Integer.parseInt(number), x -> x.reportKey(0));
            }
        });
        test(56, "amount = digit | digit digit", () -> {
            for (String command : new String[] {"report a1=@", "take a1=@", "days @"}) {
                int place = command.indexOf('@');
                malformed(command.replace("@", ""), place);
                for (String amount : new String[] {"0", "1", "9", "00", "01", "10", "99"}) {
                    valid(command.replace("@", amount));
                }
                for (String amount : new String[] {"000", "001", "100", "999"}) {
                    malformed(command.replace("@", amount), place + 2);
                }
                for (String amount : new String[] {"/", ":", "-1", "+1", "a", " 1"}) {
                    malformed(command.replace("@", amount), place);
                    malformed(command.replace("@", "1" + amount), place + 1);
                }
            }
            for (String amount : new String[] {"1", "01", "9", "09", "10", "99"}) {
                answers("value of " + amount, ran("report b5=" + amount), Integer.parseInt(amount), x -> x.reportAmount(0));
                answers("days " + amount, ran("days " + amount), Integer.parseInt(amount), RecordReconciler::day);
            }
            answers("amount 0 is no number of days", typed("days 0"), "throws IllegalStateException", RecordReconciler::run);
            answers("nor 00", typed("days 00"), "throws IllegalStateException", RecordReconciler::run);
            answers("nor an amount", typed("report a1=0"), "throws IllegalStateException", RecordReconciler::run);
        });
    }

    private static void keywords() {
        test(57, "Keywords are matched letter by letter.", () -> {
            for (String keyword : new String[] {"report ", "take ", "close", "reject", "settle ", "drop ", "days "}) {
                for (int i = 0; i < keyword.length(); i++) {
                    malformed(keyword.substring(0, i), i);
                    malformed(keyword.substring(0, i) + "~", i);
                    malformed(keyword.substring(0, i) + Character.toUpperCase(keyword.charAt(i)) + "x",
                            keyword.charAt(i) == ' ' ? i + 1 : i);
                    malformed("close;" + keyword.substring(0, i) + "~", 6 + i);
                }
            }
            malformed("rep", 3);
            malformed("rejport a1=1", 3);
            malformed("repject", 3);
            malformed("reset", 2);
            malformed("dr", 2);
            malformed("da", 2);
            malformed("drays 1", 2);
            malformed("darop a1", 2);
            malformed("reports a1=1", 6);
            malformed("rejected", 6);
            malformed("report\u007e", 6);
            malformed("settle", 6);
            malformed("daysx", 4);
        });
    }

    private static void errorPositions() {
        test(57, ERROR_POSITION, () -> {
            String program = "report a12=34;days 5;drop c6";
            for (int i = 0; i <= program.length(); i++) {
                prefix(program.substring(0, i), List.of(12, 13, 20, 28).contains(i));
            }
            malformed("!", 0);
            malformed("~".repeat(60), 0);
            malformed("r~".repeat(30), 1);
            malformed("close;close;close;close;close;close;close;close;close;report", 60);
            malformed("close;close;close;close;close;close;close;close;close;repor!", 59);
            malformed("report a001=01;report b002=02;report c003=03;days 9;days 999", 59);
            malformed("report a001=01;report b002=02;report c003=03;days 99;days 9;", 60);
            eachCharacterAtEachPlace("report a12=34;take b5=6;close");
            eachCharacterAtEachPlace("settle c999;drop a0;days 99;reject");
        });
    }

    /** A proper prefix of a valid program: the error stands at its end, unless it is a program itself. */
    private static void prefix(String text, boolean isProgram) {
        if (isProgram) {
            valid(text);
        } else {
            malformed(text, text.length());
        }
    }

    /** The model knows the grammar as a regular expression, and finds the position by its matcher. */
    private static String outcomeOfModel(String program) {
        Model model = new Model();
        for (char character : program.toCharArray()) {
            model.append(character);
        }
        String ended = Checks.outcome(model::run);
        return ended.startsWith("throws IllegalArgument") ? ended + " " + model.errorPosition() : ended;
    }

    private static void eachCharacterAtEachPlace(String program) {
        for (int i = 0; i < program.length(); i++) {
            for (char character = ' '; character <= '~'; character++) {
                String changed = program.substring(0, i) + character + program.substring(i + 1);
                RecordReconciler x = at(typed(changed));
                String ended = Checks.outcome(x::run);
                same("'" + changed + "'", ended.startsWith("throws IllegalArgument") ? ended + " " + x.errorPosition() : ended,
                        outcomeOfModel(changed));
            }
        }
    }

    private static void run() {
        test(56, "Parses the contents of the input buffer as a program and executes it.", () -> {
            answers("one command", ran("report a1=5"), 1, RecordReconciler::reportCount);
            answers("in order", ran("report a1=5;report a1=6;close"), "6 1", x -> x.amountOf('a', 1) + " " + x.correctionTotal());
            answers("each sees what those before did", ran("report a1=5;report b1=6;close;settle a1;drop b1"), "1 5 6",
                    x -> x.recordCount() + " " + x.amountOf('a', 1) + " " + x.trustOf('a'));
            answers("not twice", ran("days 1").then(x -> Checks.outcome(x::run)), 1, RecordReconciler::day);
            answers("only what was typed after the last run", ran("days 1").then(ran("days 2")), 3, RecordReconciler::day);
        });
        test(56, "Either all commands are executed or none.", () -> {
            answers("all of ten", ran(TEN), 10, RecordReconciler::closedTotal);
            Scene before = counted("a1=1 b1=2").then(reported("c5=5"));
            String state = Views.state(at(before));
            for (String program : new String[] {"drop c1", "days 1;drop c1", "report a2=2;drop a1;close;settle b1;days 1",
                "close;close;close;close;close;close;close;close;close;days 0", "settle a1;take c5=5;reject;days 99;take c5=5"}) {
                answers("none of '" + program + "'", before.then(ran(program)), state, Views::state);
            }
            for (String program : new String[] {"days 1;drop", "days 1;", "days 1;days 1;days 1;dayz 1"}) {
                answers("none of malformed '" + program + "'", before.then(ran(program)), state, Views::state);
            }
            Scene eleven = repeated(11, reported("a1=1"));
            answers("the 12th report", eleven.then(ran("report a1=1")), 12, RecordReconciler::reportCount);
            answers("not the 12th if the next one is the 13th", eleven.then(ran("report a1=1;report a1=1")), 11,
                    RecordReconciler::reportCount);
        });
        test(56, "The buffer is empty afterwards, even if an exception is thrown.", () -> {
            Scene[] ended = {EMPTY, ran(""), ran("close"), ran(SIXTY), ran(TEN), ran("x"), ran("x".repeat(60)), ran("drop a1"),
                ran("close;close;close;close;close;close;close;close;close;days 0")};
            for (int i = 0; i < ended.length; i++) {
                answers("scene " + i, ended[i], 1, x -> x.append('x'));
                answers("no program in scene " + i, ended[i], "throws IllegalArgumentException 0",
                        x -> Checks.outcome(x::run) + " " + x.errorPosition());
            }
        });
        test(56, "The buffer is empty afterwards, even if an exception is thrown.", () -> {
            for (String longer : new String[] {"report a12=34;close", "take b9=9;close", "settle a1;drop a1", "drop c17;days 5",
                "days 99;reject", "close;close", "reject;reject"}) {
                for (int i = 0; i < longer.length(); i++) {
                    String start = longer.substring(0, i);
                    String due = outcomeOfModel(start);
                    answers("'" + start + "' after '" + longer + "'", ran(longer), due, x -> {
                        Views.type(x, start);
                        String ended = Checks.outcome(x::run);
                        return due.contains(" IllegalArgument") ? ended + " " + x.errorPosition() : ended;
                    });
                }
            }
        });
        test(56, "Returns the number of commands.", () -> {
            for (int number = 1; number <= 10; number++) {
                answers("" + number, typed("close;".repeat(number).substring(0, 6 * number - 1)), number,
                        RecordReconciler::run);
            }
            answers("of each kind", counted("a1=1 b1=2").then(typed("report c1=1;take c1=1;close;reject;settle a1;drop b1;days 9")),
                    7, RecordReconciler::run);
            answers("60 characters", typed(SIXTY), 5, RecordReconciler::run);
        });
    }

    /** A run that is refused changes nothing but the buffer, and the index that it stores. */
    private static void runRefused(Scene before, String program, Class<? extends Exception> due, String index, int stored) {
        answers("'" + program + "'", before.then(typed(program)), "throws " + due.getSimpleName(), RecordReconciler::run);
        same("'" + program + "' leaves all but " + index + " as it was", whole(before.then(ran(program))),
                whole(before).replace(index + " throws NoSuchElementException", index + " " + stored));
    }

    private static void runThrows() {
        Scene before = counted("a1=1 b1=2").then(reported("c5=5")).then(x -> x.formatKey(1)).then(RecordReconciler::save)
                .then(repeated(9, x -> x.pass(1)));
        test(56, "Throws `IllegalArgumentException` if the program is malformed; the error position is stored", () -> {
            neverThrows("a whole program", before.then(typed("close;days 1")), ARGUMENT, RecordReconciler::run);
            neverThrows("a command with a wrong argument", before.then(typed("days 0")), ARGUMENT, RecordReconciler::run);
            runRefused(before, "", ARGUMENT, "error", 0);
            runRefused(before, "close;days ", ARGUMENT, "error", 11);
            runRefused(before, "close;dayz 1", ARGUMENT, "error", 9);
            runRefused(before, "drop a1;drop b1;", ARGUMENT, "error", 16);
            runRefused(before, "days 0;x", ARGUMENT, "error", 7);
            runRefused(before, "drop c1;drop c1;drop c", ARGUMENT, "error", 22);
            runRefused(before, "~".repeat(60), ARGUMENT, "error", 0);
        });
        test(56, "Throws `IllegalStateException` if the method of a command throws an exception; the index of this command, "
                + "starting at 0, is stored", () -> {
            neverThrows("none does", before.then(typed("drop a1;drop b1")), STATE, RecordReconciler::run);
            runRefused(before, "drop a1;drop a1", STATE, "failed", 1);
            runRefused(before, "drop c1", STATE, "failed", 0);
            runRefused(before, "report a1=0", STATE, "failed", 0);
            runRefused(before, "take c5=6", STATE, "failed", 0);
            runRefused(before, "take c5=00;take c5=5", STATE, "failed", 0);
            runRefused(before, "settle c1", STATE, "failed", 0);
            runRefused(before, "settle a1;settle a1", STATE, "failed", 1);
            runRefused(before, "days 1;days 0;days 1", STATE, "failed", 1);
            Scene eleven = before.then(repeated(10, reported("a1=1")));
            runRefused(eleven, "report a1=1;report a1=1", STATE, "failed", 1);
            Scene full = FULL.then(reported("a0=10")).then(RecordReconciler::save);
            runRefused(full, "report a999=9;close", STATE, "failed", 1);
            neverThrows("with room for one", full.then(typed("report a999=9;drop a30;close")), STATE, RecordReconciler::run);
            for (int index = 0; index < 9; index++) {
                String program = "close;".repeat(index) + "days 0" + ";reject".repeat(index < 8 ? 1 : 0);
                runRefused(before, program, STATE, "failed", index);
            }
            runRefused(before, "close;".repeat(9) + "days 0", STATE, "failed", 9);
        });
    }

    private static void errorPosition() {
        test(57, "Returns the error position of the latest malformed program.", () -> {
            answers("the first", ran("~"), 0, RecordReconciler::errorPosition);
            answers("the second", ran("da~").then(ran("~")), 0, RecordReconciler::errorPosition);
            answers("the other order", ran("~").then(ran("da~")), 2, RecordReconciler::errorPosition);
            answers("the greatest", ran("~").then(ran(TEN + ";")), 60, RecordReconciler::errorPosition);
            answers("not that of a whole program", ran("da~").then(ran("close")), 2, RecordReconciler::errorPosition);
            answers("nor of one that failed", ran("da~").then(ran("close;drop a1")), 2, RecordReconciler::errorPosition);
            answers("nor of what is not run", ran("da~").then(typed("~")), 2, RecordReconciler::errorPosition);
        });
        test(57, "Throws `NoSuchElementException` if no program was malformed so far", () -> {
            refusedAsItIs("none at all", EMPTY, ELEMENT, RecordReconciler::errorPosition);
            refusedAsItIs("none run", typed("~"), ELEMENT, RecordReconciler::errorPosition);
            refusedAsItIs("a whole one", ran("close"), ELEMENT, RecordReconciler::errorPosition);
            refusedAsItIs("one that failed", ran("days 0"), ELEMENT, RecordReconciler::errorPosition);
            neverThrows("a malformed one", ran("~"), ELEMENT, RecordReconciler::errorPosition);
            neverThrows("an empty one", ran(""), ELEMENT, RecordReconciler::errorPosition);
        });
    }

    private static void failedCommand() {
        test(58, "Returns the index of the latest command that failed.", () -> {
            answers("the first", ran("drop a1"), 0, RecordReconciler::failedCommand);
            answers("the second", ran("drop a1").then(ran("close;drop a1")), 1, RecordReconciler::failedCommand);
            answers("the other order", ran("close;drop a1").then(ran("drop a1")), 0, RecordReconciler::failedCommand);
            answers("only the first of a program", ran("days 1;days 0;days 0"), 1, RecordReconciler::failedCommand);
            answers("the greatest", ran("close;".repeat(9) + "days 0"), 9, RecordReconciler::failedCommand);
            answers("not that of a whole program", ran("close;drop a1").then(ran("close")), 1,
                    RecordReconciler::failedCommand);
            answers("nor of a malformed one", ran("close;drop a1").then(ran("drop a1;x")), 1,
                    RecordReconciler::failedCommand);
            answers("nor of a call that is no command", ran("close;drop a1").then(x -> Checks.outcome(() -> x.drop('a', 1))),
                    1, RecordReconciler::failedCommand);
        });
        test(58, "Throws `NoSuchElementException` if no command failed so far", () -> {
            refusedAsItIs("none at all", EMPTY, ELEMENT, RecordReconciler::failedCommand);
            refusedAsItIs("none run", typed("drop a1"), ELEMENT, RecordReconciler::failedCommand);
            refusedAsItIs("a whole program", ran("close"), ELEMENT, RecordReconciler::failedCommand);
            refusedAsItIs("a malformed one", ran("drop a1;x"), ELEMENT, RecordReconciler::failedCommand);
            refusedAsItIs("a call that is no command", x -> Checks.outcome(() -> x.drop('a', 1)), ELEMENT,
                    RecordReconciler::failedCommand);
            neverThrows("a command", ran("drop a1"), ELEMENT, RecordReconciler::failedCommand);
        });
    }
}
