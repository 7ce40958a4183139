/** Promises 59 to 62: undo, save and restore. */
public final class UndoPromises {
    private static final Class<IllegalStateException> STATE = IllegalStateException.class;

    public static void main(String[] args) {
        promise59UndoableCount();
        promise60EachChange();
        promise60UpToEight();
        promise60ChangesWithoutEffect();
        promise60NotAffected();
        promise61Save();
        promise62Restore();
        Checks.finish("UndoPromises");
    }

    private static void promise59UndoableCount() {
        RecordReconciler x = new RecordReconciler();
        Checks.same("59 none", x.undoableCount(), 0);
        for (int i = 1; i <= 20; i++) {
            x.pass(1);
            Checks.same("59 after " + i, x.undoableCount(), Math.min(i, 8));
        }
        Checks.outcome(() -> x.pass(0));
        Checks.outcome(() -> x.drop('a', 1));
        Checks.same("59 a refused call is no change", x.undoableCount(), 8);
        x.undo();
        Checks.same("59 after undo", x.undoableCount(), 7);
        x.save();
        x.formatBatch();
        x.append('x');
        x.matchingSize('a', 'b');
        Checks.same("59 other calls are no changes", x.undoableCount(), 7);
    }

    private static void undone(String what, RecordReconciler x, Checks.Call change) {
        String before = Views.state(x);
        int count = x.undoableCount();
        change.make();
        Checks.same("60 " + what + " is a change", !Views.state(x).equals(before), true);
        Checks.same("60 " + what + " is undone", x.undo(), Math.min(count, 7));
        Checks.same("60 " + what + " is undone", Views.state(x), before);
    }

    private static void promise60EachChange() {
        RecordReconciler x = new RecordReconciler();
        Checks.refused("60 none", x, STATE, x::undo);
        Views.count(x, "a1=1 b1=2 c1=3 a2=2 b2=2");
        x.drop('a', 2);
        x.report('a', 1, 5);
        x.report('a', 1, 5);
        x.report('c', 7, 5);
        x.undo();
        x.report('c', 8, 6);
        x.report('b', 9, 7);
        undone("report", x, () -> x.report('b', 9, 9));
        undone("withdraw", x, () -> x.withdraw('a', 1, 5));
        undone("closeBatch", x, x::closeBatch);
        undone("rejectBatch", x, x::rejectBatch);
        undone("settle", x, () -> x.settle('b', 1));
        undone("drop", x, () -> x.drop('a', 1));
        undone("drop of a key's last record", x, () -> x.drop('b', 2));
        undone("pass", x, () -> x.pass(9));
        undone("run", x, () -> Views.run(x, "drop b2;drop a1;close;settle c1;days 9"));
    }

    private static void promise60UpToEight() {
        RecordReconciler x = new RecordReconciler();
        String[] states = new String[12];
        for (int i = 0; i < 11; i++) {
            states[i] = Views.state(x);
            x.report('a', i, i + 1);
        }
        for (int i = 10; i >= 3; i--) {
            Checks.same("60 can still be undone", x.undo(), i - 3);
            Checks.same("60 the latest first", Views.state(x), states[i]);
        }
        Checks.refused("60 no more than eight", x, STATE, x::undo);
        x.pass(1);
        x.pass(2);
        Checks.same("60 undo and change by turns", x.undo(), 1);
        x.pass(3);
        Checks.same("60 undo and change by turns", x.day(), 4);
        Checks.same("60 undo and change by turns", x.undo() * 10 + x.day(), 11);
        Checks.same("60 undo and change by turns", x.undo() * 10 + x.day(), 0);
    }

    private static void promise60ChangesWithoutEffect() {
        RecordReconciler x = Views.with("a1=1");
        x.report('a', 1, 1);
        Views.run(x, "report b1=1;take b1=1");
        Checks.same("60 a run without effect is a change", x.undoableCount(), 4);
        Checks.same("60 a run without effect is undone", x.undo(), 3);
        Checks.same("60 and nothing else", x.reportCount(), 1);
        x.undo();
        Checks.same("60 then the report", x.reportCount(), 0);
    }

    private static void promise60NotAffected() {
        RecordReconciler x = Views.with("a1=1 b1=2");
        Views.type(x, "dx");
        Checks.outcome(x::run);
        Views.type(x, "days 1;days 0");
        Checks.outcome(x::run);
        x.save();
        x.pass(5);
        x.formatRecord('a', 1);
        Views.type(x, "days");
        x.undo();
        Checks.same("60 line", Views.line(x), "a1=1 @0");
        Checks.same("60 error position and failed command", x.errorPosition() * 10 + x.failedCommand(), 11);
        Checks.same("60 buffer", x.append(' '), 5);
        x.append('7');
        Checks.same("60 buffer runs", x.run(), 1);
        Checks.same("60 buffer runs", x.day(), 8);
        x.undo();
        Checks.same("60 a run that is undone leaves the buffer empty", x.append('d'), 1);
        x.undo();
        Checks.same("60 back before the closing", x.undoableCount() * 10 + x.recordCount(), 20);
        Checks.same("60 saved copy", x.restore(), 2);
        Checks.same("60 saved copy", x.day(), 1);
    }

    private static void promise61Save() {
        RecordReconciler x = new RecordReconciler();
        Checks.same("61 nothing", x.save(), 0);
        Views.count(x, "a1=1 b1=2 c2=3");
        x.settle('a', 1);
        x.report('a', 9, 9);
        String before = Views.all(x);
        Checks.same("61 records", x.save(), 3);
        Checks.same("61 changes nothing", Views.all(x), before);
        String state = Views.state(x);
        x.closeBatch();
        x.drop('c', 2);
        x.rejectBatch();
        x.pass(9);
        x.restore();
        Checks.same("61 replaces the earlier copy, and holds everything", Views.state(x), state);
    }

    private static void promise62Restore() {
        RecordReconciler x = Views.with("a1=1 b1=2");
        Checks.refused("62 no copy", x, STATE, x::restore);
        x.report('c', 5, 5);
        x.save();
        String state = Views.state(x);
        x.closeBatch();
        x.settle('a', 1);
        x.formatKey(1);
        Views.type(x, "day");
        Checks.same("62 records", x.restore(), 2);
        Checks.same("62 state", Views.state(x), state);
        Checks.same("62 nothing to undo", x.undoableCount(), 0);
        Checks.refused("62 nothing to undo", x, STATE, x::undo);
        Checks.same("62 the line stays", Views.line(x), "1: a1 b1 confirmed");
        Checks.same("62 the buffer stays", x.append('s'), 4);
        x.drop('a', 1);
        x.report('c', 6, 6);
        Checks.same("62 the copy stays available", x.restore(), 2);
        Checks.same("62 and stays as it was", Views.state(x), state);
        x.pass(1);
        x.undo();
        Checks.same("62 changes after it can be undone", Views.state(x), state);
    }
}
