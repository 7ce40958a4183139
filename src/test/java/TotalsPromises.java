/** Promises 39 to 50: trust, totals, means and the check of the service. */
public final class TotalsPromises {
    private static final Class<IllegalArgumentException> ARGUMENT = IllegalArgumentException.class;
    private static final Class<ArithmeticException> ARITHMETIC = ArithmeticException.class;

    public static void main(String[] args) {
        promise39TrustOf();
        promise40MostTrusted();
        promises41To47Totals();
        promise48MeanAmount();
        promise49ConfirmedShare();
        promise50IsConsistent();
        Checks.finish("TotalsPromises");
    }

    private static void promise39TrustOf() {
        RecordReconciler x = Views.with("a1=1 b1=2 c1=3 b2=1 c2=2");
        Checks.same("39 at first", "" + x.trustOf('a') + x.trustOf('b') + x.trustOf('c'), "555");
        x.settle('c', 1);
        x.settle('c', 2);
        Checks.same("39 after settling", "" + x.trustOf('a') + x.trustOf('b') + x.trustOf('c'), "437");
        Checks.refused("39 source d", x, ARGUMENT, () -> x.trustOf('d'));
        Checks.refused("39 source before a", x, ARGUMENT, () -> x.trustOf('`'));
    }

    private static void promise40MostTrusted() {
        RecordReconciler x = Views.with("a1=1 b1=2 a2=1 c2=2 b3=1 c3=2 b4=1 c4=2 b5=1 c5=2");
        Checks.same("40 all are equal", x.mostTrusted(), 'a');
        x.settle('b', 1);
        Checks.same("40 b", x.mostTrusted(), 'b');
        x.settle('c', 2);
        Checks.same("40 b and c are equal", x.mostTrusted(), 'b');
        x.settle('c', 3);
        Checks.same("40 c", x.mostTrusted(), 'c');
        x.settle('b', 4);
        x.settle('b', 5);
        Checks.same("40 b again", x.mostTrusted(), 'b');
        x.undo();
        x.undo();
        Checks.same("40 undone", x.mostTrusted(), 'c');
    }

    private static String totals(RecordReconciler x) {
        return x.duplicateTotal() + " " + x.correctionTotal() + " " + x.newTotal() + " " + x.droppedTotal() + " "
                + x.closedTotal() + " " + x.rejectedTotal() + " " + x.settledTotal();
    }

    private static void promises41To47Totals() {
        RecordReconciler x = new RecordReconciler();
        Checks.same("41 to 47 at first", totals(x), "0 0 0 0 0 0 0");
        for (String record : "a1=1 a1=1 a1=2 b1=3 b1=3".split(" ")) {
            Views.report(x, record);
        }
        Checks.same("41 to 47 reports alone", totals(x), "0 0 0 0 0 0 0");
        x.closeBatch();
        Checks.same("41 to 47 a close", totals(x), "2 1 2 0 1 0 0");
        x.report('a', 1, 2);
        x.report('c', 1, 2);
        x.rejectBatch();
        Checks.same("41 to 47 a reject", totals(x), "2 1 2 0 1 1 0");
        x.settle('a', 1);
        Checks.same("41 to 47 a settled dispute", totals(x), "2 1 2 0 1 1 1");
        x.drop('b', 1);
        Checks.same("41 to 47 a drop", totals(x), "2 1 2 1 1 1 1");
        Views.count(x, "b1=3 a1=2 a1=4 c9=9");
        Checks.same("41 to 47 so far", totals(x), "3 2 4 1 2 1 1");
        x.closeBatch();
        x.rejectBatch();
        Checks.same("41 to 47 empty batches", totals(x), "3 2 4 1 3 2 1");
        RecordReconciler full = Views.full();
        full.report('a', 0, 10);
        full.report('a', 999, 10);
        Checks.same("41 to 47 a close that fails", Checks.outcome(full::closeBatch), "throws IllegalStateException");
        Checks.same("41 to 47 a close that fails", totals(full), "0 0 30 0 3 0 0");
    }

    private static void promise48MeanAmount() {
        RecordReconciler x = new RecordReconciler();
        Checks.refused("48 none", x, ARITHMETIC, x::meanAmount);
        x.report('a', 1, 10);
        Checks.refused("48 a report is not counted", x, ARITHMETIC, x::meanAmount);
        x.closeBatch();
        Checks.same("48 one", x.meanAmount(), 10.0);
        Views.count(x, "b1=11 c1=11");
        Checks.same("48 thirds", x.meanAmount(), 32.0 / 3.0);
        x.drop('b', 1);
        Checks.same("48 halves", x.meanAmount(), 10.5);
        x.drop('a', 1);
        x.drop('c', 1);
        Checks.refused("48 none any more", x, ARITHMETIC, x::meanAmount);
    }

    private static void promise49ConfirmedShare() {
        RecordReconciler x = new RecordReconciler();
        Checks.refused("49 none", x, ARITHMETIC, x::confirmedShare);
        x.report('a', 1, 10);
        Checks.refused("49 a report is not counted", x, ARITHMETIC, x::confirmedShare);
        x.closeBatch();
        Checks.same("49 open", x.confirmedShare(), 0.0f);
        Views.count(x, "b1=10 c1=10");
        Checks.same("49 a key counts once", x.confirmedShare(), 1.0f);
        Views.count(x, "a2=1 b2=2 c3=1");
        Checks.same("49 thirds", x.confirmedShare(), 1.0f / 3.0f);
        x.drop('c', 3);
        Checks.same("49 a dropped key does not count", x.confirmedShare(), 0.5f);
        x.undo();
        Checks.same("49 it counts again", x.confirmedShare(), 1.0f / 3.0f);
        x.undo();
        Checks.same("49 before the closing", x.confirmedShare(), 1.0f);
    }

    private static void promise50IsConsistent() {
        RecordReconciler x = new RecordReconciler();
        Checks.same("50 new", x.isConsistent(), true);
        Views.count(x, "a10=40 b15=42 b10=41 c12=40 a10=40 a30=44");
        Checks.same("50 records", x.isConsistent(), true);
        x.drop('a', 10);
        Checks.same("50 dropped", x.isConsistent(), true);
        x.save();
        Views.count(x, "a10=40 c99=1");
        x.undo();
        Checks.same("50 undone", x.isConsistent(), true);
        x.restore();
        Checks.same("50 restored", x.isConsistent(), true);
        Checks.same("50 full", Views.full().isConsistent(), true);
    }
}
