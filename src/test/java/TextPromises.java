import java.util.NoSuchElementException;

/** Promises 51 to 58: the formatted line, and the commands. */
public final class TextPromises {
    private static final Class<IllegalArgumentException> ARGUMENT = IllegalArgumentException.class;
    private static final Class<NoSuchElementException> ELEMENT = NoSuchElementException.class;
    private static final Class<IllegalStateException> STATE = IllegalStateException.class;
    private static final Class<IndexOutOfBoundsException> INDEX = IndexOutOfBoundsException.class;

    public static void main(String[] args) {
        promise51FormatRecord();
        promise52FormatKey();
        promise53FormatBatch();
        promise54LineChar();
        promise55Append();
        promise56Run();
        promise56RunIsOneChange();
        promise56AllOrNone();
        promise57ErrorPosition();
        promise58FailedCommand();
        Checks.finish("TextPromises");
    }

    private static void promise51FormatRecord() {
        RecordReconciler x = new RecordReconciler();
        x.pass(3);
        Views.count(x, "a17=40 b0=1");
        x.pass(99);
        Views.count(x, "c999=99");
        Checks.same("51 length", x.formatRecord('a', 17), 9);
        Checks.same("51 the example", Views.line(x), "a17=40 @3");
        Checks.same("51 length", x.formatRecord('b', 0), 7);
        Checks.same("51 short", Views.line(x), "b0=1 @3");
        Checks.same("51 length", x.formatRecord('c', 999), 12);
        Checks.same("51 long", Views.line(x), "c999=99 @103");
        Checks.refused("51 source", x, ARGUMENT, () -> x.formatRecord('d', 17));
        Checks.refused("51 key below", x, ARGUMENT, () -> x.formatRecord('a', -1));
        Checks.refused("51 key above", x, ARGUMENT, () -> x.formatRecord('a', 1000));
        Checks.refused("51 no record", x, ELEMENT, () -> x.formatRecord('a', 999));
    }

    private static void keyLine(RecordReconciler x, int key, String due) {
        Checks.same("52 length", x.formatKey(key), due.length());
        Checks.same("52 line", Views.line(x), due);
    }

    private static void promise52FormatKey() {
        RecordReconciler x = Views.with("c17=41 a17=40 a1=5 c1=5 b1=5 b0=99 a999=3 b999=9 c999=9");
        keyLine(x, 17, "17: a40 c41 disputed ~40");
        keyLine(x, 1, "1: a5 b5 c5 confirmed");
        keyLine(x, 0, "0: b99 open");
        keyLine(x, 999, "999: a3 b9 c9 disputed ~9");
        Checks.refused("52 below", x, ARGUMENT, () -> x.formatKey(-1));
        Checks.refused("52 above", x, ARGUMENT, () -> x.formatKey(1000));
        Checks.refused("52 no record", x, ELEMENT, () -> x.formatKey(2));
    }

    private static void promise53FormatBatch() {
        RecordReconciler x = Views.with("a10=40");
        Checks.same("53 empty", x.formatBatch(), 0);
        Checks.same("53 empty", Views.line(x), "");
        for (String record : "a10=40 b0=1 a10=41 b0=1".split(" ")) {
            Views.report(x, record);
        }
        Checks.same("53 length", x.formatBatch(), 27);
        Checks.same("53 line", Views.line(x), "a10=40d b0=1n a10=41c b0=1d");
    }

    private static void promise54LineChar() {
        RecordReconciler x = new RecordReconciler();
        Checks.refused("54 empty at first", x, INDEX, () -> x.lineChar(0));
        Views.count(x, "a17=40 b2=1");
        x.formatRecord('a', 17);
        Checks.same("54 first", x.lineChar(0), 'a');
        Checks.same("54 last", x.lineChar(8), '0');
        for (int index : new int[] {-1, 9, 100, Integer.MIN_VALUE, Integer.MAX_VALUE}) {
            Checks.refused("54 index " + index, x, INDEX, () -> x.lineChar(index));
        }
        x.formatRecord('b', 2);
        Checks.refused("54 a shorter line replaces all of it", x, INDEX, () -> x.lineChar(7));
        StringBuilder due = new StringBuilder();
        RecordReconciler most = new RecordReconciler();
        for (int i = 0; i < 12; i++) {
            most.report('c', 988 + i, 99 - i);
            due.append(i > 0 ? " " : "").append("c").append(988 + i).append("=").append(99 - i).append("n");
        }
        Checks.same("54 the longest line", most.formatBatch(), 107);
        Checks.same("54 the longest line", Views.line(most), due.toString());
        most.rejectBatch();
        Checks.same("54 changes do not change the line", Views.line(most), due.toString());
    }

    private static void promise55Append() {
        RecordReconciler x = new RecordReconciler();
        Checks.same("55 first", x.append(' '), 1);
        Checks.same("55 second", x.append('~'), 2);
        for (char character : new char[] {31, 127, 0, '\n', 160, 65535}) {
            Checks.refused("55 character " + (int) character, x, ARGUMENT, () -> x.append(character));
        }
        Checks.same("55 a refused one is not in the buffer", x.append('x'), 3);
        for (int i = 4; i <= 60; i++) {
            Checks.same("55 number " + i, x.append('x'), i);
        }
        Checks.refused("55 full", x, STATE, () -> x.append('x'));
        Checks.refused("55 full and wrong: the first exception", x, ARGUMENT, () -> x.append((char) 31));
        Checks.same("55 a program of 60", Checks.outcome(x::run), "throws IllegalArgumentException");
        Checks.same("55 empty after run", x.append('x'), 1);
    }

    private static void promise56Run() {
        RecordReconciler x = new RecordReconciler();
        Checks.same("56 one", Views.run(x, "report a17=40"), 1);
        Checks.same("56 five", Views.run(x, "report b017=41;report c999=9;take c999=9;close;days 07"), 5);
        Checks.same("56 state", Views.state(x), "day 8 batch records 2 a17=40@0 trust 5 b17=41@0 trust 5 trust 5"
                + " totals 2 0 0 0 1 0 0");
        Checks.same("56 three", Views.run(x, "settle b17;drop a17;reject"), 3);
        Checks.same("56 state", Views.state(x), "day 9 batch records 1 trust 4 b17=41@0 trust 6 trust 5"
                + " totals 2 0 0 1 1 1 1");
        Checks.same("56 key 0", Views.run(x, "report a0=1;report a00=1;take a000=1;take a0=1"), 4);
        Checks.same("56 the most commands", Views.run(x, "close;close;close;close;close;close;close;close;close;close"),
                10);
        Checks.same("56 the most commands", x.closedTotal(), 11);
        Checks.same("56 60 characters", Views.run(x, "report a001=01;report b002=02;report c003=03;days 99;days 99"),
                5);
        Checks.same("56 leading zeros", x.reportKey(2) * 100 + x.reportAmount(2), 303);
        Checks.same("56 the buffer is empty after it", x.append('x'), 1);
        Checks.same("56 malformed", Checks.outcome(x::run), "throws IllegalArgumentException");
        Checks.same("56 the buffer is empty after a malformed one", x.append('d'), 1);
        Views.type(x, "rop a999");
        Checks.same("56 failed", Checks.outcome(x::run), "throws IllegalStateException");
        Checks.same("56 the buffer is empty after a failed one", x.append('x'), 1);
    }

    private static void promise56RunIsOneChange() {
        RecordReconciler x = new RecordReconciler();
        x.report('a', 1, 1);
        String before = Views.state(x);
        Views.run(x, "report a2=2;close;days 5;report b1=1");
        Checks.same("56 one change", x.undoableCount(), 2);
        Checks.same("56 one undo takes it back", x.undo(), 1);
        Checks.same("56 one undo takes it back", Views.state(x), before);
    }

    private static void promise56AllOrNone() {
        RecordReconciler x = Views.with("a1=1 b1=2");
        x.report('c', 5, 5);
        String before = Views.all(x);
        Views.type(x, "report a2=2;drop a1;close;settle b1;days 1");
        Checks.same("56 a command fails", Checks.outcome(x::run), "throws IllegalStateException");
        Checks.same("56 none is executed", Views.all(x), before.replace("failed throws NoSuchElementException",
                "failed 3"));
        before = Views.all(x);
        Views.type(x, "report a2=2;drop a1;closd");
        Checks.same("56 malformed", Checks.outcome(x::run), "throws IllegalArgumentException");
        Checks.same("56 none is executed", Views.all(x), before.replace("error throws NoSuchElementException",
                "error 24"));
        RecordReconciler y = Views.with("a1=1 b1=2");
        for (int i = 0; i < 9; i++) {
            y.pass(1);
        }
        Views.type(y, "days 1;days 0");
        Checks.same("56 a failed run", Checks.outcome(y::run), "throws IllegalStateException");
        for (int i = 7; i >= 0; i--) {
            Checks.same("56 costs no older change", y.undo(), i);
        }
        Checks.same("56 costs no older change", y.day(), 2);
    }

    private static void malformed(String program, int due) {
        RecordReconciler x = new RecordReconciler();
        Views.type(x, program);
        Checks.same("56 malformed '" + program + "'", Checks.outcome(x::run), "throws IllegalArgumentException");
        Checks.same("57 error of '" + program + "'", x.errorPosition(), due);
    }

    private static void promise57ErrorPosition() {
        RecordReconciler x = new RecordReconciler();
        Checks.refused("57 none so far", x, ELEMENT, x::errorPosition);
        Views.run(x, "close");
        Checks.refused("57 none by a good program", x, ELEMENT, x::errorPosition);
        Views.type(x, "drop a1");
        Checks.same("57 failed", Checks.outcome(x::run), "throws IllegalStateException");
        Checks.refused("57 none by a failed one", x, ELEMENT, x::errorPosition);
        String[] keywords = {"report a1=1", "take a1=1", "close", "reject", "settle a1", "drop a1", "days 1"};
        for (String keyword : keywords) {
            int whole = keyword.endsWith("1") ? keyword.length() - 1 : keyword.length();
            for (int i = 0; i < whole; i++) {
                malformed(keyword.substring(0, i), i);
                malformed(keyword.substring(0, i) + "!" + keyword.substring(i), i);
                malformed("close;" + keyword.substring(0, i) + "X", i + 6);
            }
            malformed(keyword + ";", keyword.length() + 1);
            malformed(keyword + ";;", keyword.length() + 1);
            malformed(keyword + " ", keyword.length());
        }
        malformed("", 0);
        malformed(";close", 0);
        malformed(" close", 0);
        malformed("Close", 0);
        malformed("repect a1", 3);
        malformed("rejort a1=1", 3);
        malformed("dropa1", 4);
        malformed("dayp 1", 3);
        malformed("closes", 5);
        malformed("close; close", 6);
        malformed("report d1=1", 7);
        malformed("report A1=1", 7);
        malformed("report 1=1", 7);
        malformed("take 1=1", 5);
        malformed("settle 1", 7);
        malformed("drop 1", 5);
        malformed("report  a1=1", 7);
        malformed("report a=1", 8);
        malformed("report a1234=1", 11);
        malformed("report a1", 9);
        malformed("report a123", 11);
        malformed("report a1;", 9);
        malformed("report a1=", 10);
        malformed("report a1=123", 12);
        malformed("report a1=-1", 10);
        malformed("settle a1=1", 9);
        malformed("drop a1234", 9);
        malformed("drop a", 6);
        malformed("days 123", 7);
        malformed("days a", 5);
        malformed("report a001=01;report b002=02;report c003=03;days 9;days 999", 59);
        malformed("close;close;close;close;close;close;close;close;close;close;", 60);
        malformed("close;close;close;close;close;close;close;close;close;report", 60);
        latestErrorPosition();
    }

    private static void latestErrorPosition() {
        RecordReconciler x = new RecordReconciler();
        Views.type(x, "closx");
        Checks.outcome(x::run);
        Views.type(x, "dx");
        Checks.outcome(x::run);
        Checks.same("57 the latest", x.errorPosition(), 1);
        Views.run(x, "close");
        Checks.same("57 stays after a good program", x.errorPosition(), 1);
        x.undo();
        x.save();
        x.restore();
        Checks.same("57 stays after undo and restore", x.errorPosition(), 1);
    }

    private static void fails(RecordReconciler x, String program, int due) {
        Views.type(x, program);
        Checks.same("56 fails '" + program + "'", Checks.outcome(x::run), "throws IllegalStateException");
        Checks.same("58 index of '" + program + "'", x.failedCommand(), due);
    }

    private static void promise58FailedCommand() {
        RecordReconciler x = Views.with("a1=1 b1=2 a2=3");
        Checks.refused("58 none so far", x, ELEMENT, x::failedCommand);
        Views.type(x, "dxx");
        Checks.same("58 malformed", Checks.outcome(x::run), "throws IllegalArgumentException");
        Checks.refused("58 none by a malformed one", x, ELEMENT, x::failedCommand);
        fails(x, "report a1=0", 0);
        fails(x, "report a1=1;report a1=00", 1);
        fails(x, "take a1=1", 0);
        fails(x, "report a1=1;take a1=1;take a1=1", 2);
        fails(x, "take a1=0", 0);
        fails(x, "days 1;settle a3", 1);
        fails(x, "settle a2", 0);
        fails(x, "settle a1;days 1;settle b1", 2);
        fails(x, "drop c1", 0);
        fails(x, "days 0", 0);
        fails(x, "close;reject;days 00", 2);
        fails(x, "close;close;close;close;close;close;close;close;close;days 0", 9);
        Views.run(x, "close");
        Checks.same("58 stays after a good program", x.failedCommand(), 9);
        x.undo();
        Checks.same("58 stays after undo", x.failedCommand(), 9);
        for (int i = 0; i < 12; i++) {
            x.report('c', i, 1);
        }
        fails(x, "report a1=1", 0);
        fails(x, "take c3=1;report a1=1;report a1=1", 2);
        RecordReconciler full = Views.full();
        full.report('a', 999, 1);
        fails(full, "days 1;close", 1);
    }
}
