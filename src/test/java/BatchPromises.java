import java.util.NoSuchElementException;

/** Promises 1 to 15: the open batch, and the changes. */
public final class BatchPromises {
    private static final Class<IllegalArgumentException> ARGUMENT = IllegalArgumentException.class;
    private static final Class<NoSuchElementException> ELEMENT = NoSuchElementException.class;
    private static final Class<IllegalStateException> STATE = IllegalStateException.class;
    private static final Class<IndexOutOfBoundsException> INDEX = IndexOutOfBoundsException.class;

    public static void main(String[] args) {
        promise01NewObject();
        promise02Report();
        promise03Withdraw();
        promise04CloseBatch();
        promise04CloseAtTheLimit();
        promise05RejectBatch();
        promise06Settle();
        promise06SettleAtTheEndsOfTrust();
        promise07Drop();
        promise08Pass();
        promise09Day();
        promises10To13Reports();
        promise14OutcomeOf();
        promise15CanClose();
        Checks.finish("BatchPromises");
    }

    private static void promise01NewObject() {
        RecordReconciler x = new RecordReconciler();
        Checks.same("1 new object", Views.state(x),
                "day 0 batch records 0 trust 5 trust 5 trust 5 totals 0 0 0 0 0 0 0");
        Checks.same("1 nothing to undo", x.undoableCount(), 0);
        Checks.same("1 no line", Views.line(x), "");
        Checks.same("1 an object of its own", Views.state(new RecordReconciler()), Views.state(x));
        x.report('a', 1, 1);
        Checks.same("1 nothing is shared", new RecordReconciler().reportCount(), 0);
    }

    private static void promise02Report() {
        RecordReconciler x = new RecordReconciler();
        Checks.same("2 first", x.report('a', 0, 1), 1);
        Checks.same("2 ends of the ranges", x.report('c', 999, 99), 2);
        Checks.same("2 the same twice", x.report('c', 999, 99), 3);
        for (char source : new char[] {'d', '`', 'A', ' ', (char) 0, (char) 65535}) {
            Checks.refused("2 source " + (int) source, x, ARGUMENT, () -> x.report(source, 1, 1));
        }
        for (int key : new int[] {-1, 1000, Integer.MIN_VALUE, Integer.MAX_VALUE}) {
            Checks.refused("2 key " + key, x, ARGUMENT, () -> x.report('a', key, 1));
        }
        for (int amount : new int[] {-1, 0, 100, Integer.MIN_VALUE, Integer.MAX_VALUE}) {
            Checks.refused("2 amount " + amount, x, ARGUMENT, () -> x.report('a', 1, amount));
        }
        for (int i = 4; i <= 12; i++) {
            Checks.same("2 report " + i, x.report('b', i, i), i);
        }
        Checks.refused("2 full", x, STATE, () -> x.report('a', 1, 1));
        Checks.refused("2 full and wrong: the first exception", x, ARGUMENT, () -> x.report('d', 1, 1));
        Checks.refused("2 full and wrong key", x, ARGUMENT, () -> x.report('a', 1000, 1));
        Checks.refused("2 full and wrong amount", x, ARGUMENT, () -> x.report('a', 1, 0));
    }

    private static void promise03Withdraw() {
        RecordReconciler x = new RecordReconciler();
        for (String record : "a1=5 b1=5 a1=5 a1=6 a2=5".split(" ")) {
            Views.report(x, record);
        }
        Checks.refused("3 other source", x, ELEMENT, () -> x.withdraw('c', 1, 5));
        Checks.refused("3 other key", x, ELEMENT, () -> x.withdraw('a', 3, 5));
        Checks.refused("3 other amount", x, ELEMENT, () -> x.withdraw('a', 1, 7));
        Checks.refused("3 source", x, ARGUMENT, () -> x.withdraw('d', 1, 5));
        Checks.refused("3 key below", x, ARGUMENT, () -> x.withdraw('a', -1, 5));
        Checks.refused("3 key above", x, ARGUMENT, () -> x.withdraw('a', 1000, 5));
        Checks.refused("3 amount below", x, ARGUMENT, () -> x.withdraw('a', 1, 0));
        Checks.refused("3 amount above", x, ARGUMENT, () -> x.withdraw('a', 1, 100));
        Checks.same("3 answer", x.withdraw('a', 1, 5), 4);
        x.formatBatch();
        Checks.same("3 the latest one goes", Views.line(x), "a1=5n b1=5n a1=6c a2=5n");
        Checks.same("3 again", x.withdraw('a', 1, 5), 3);
        x.formatBatch();
        Checks.same("3 the rest moves up", Views.line(x), "b1=5n a1=6n a2=5n");
        Checks.refused("3 no more", x, ELEMENT, () -> x.withdraw('a', 1, 5));
        RecordReconciler counted = Views.with("a1=5");
        Checks.refused("3 a counted record is no report", counted, ELEMENT, () -> counted.withdraw('a', 1, 5));
    }

    private static void promise04CloseBatch() {
        RecordReconciler x = new RecordReconciler();
        x.pass(4);
        Checks.same("4 empty batch", x.closeBatch(), 0);
        Checks.same("4 day after an empty batch", x.day(), 5);
        for (String record : "a1=5 a1=5 a1=6 a1=5 b1=9 b2=9".split(" ")) {
            Views.report(x, record);
        }
        Checks.same("4 new records", x.closeBatch(), 3);
        Checks.same("4 state", Views.state(x), "day 6 batch records 3 a1=5@5 trust 5 b1=9@5 b2=9@5 trust 5 trust 5"
                + " totals 3 2 1 0 2 0 0");
        for (String record : "a1=5 b1=8 c1=1".split(" ")) {
            Views.report(x, record);
        }
        Checks.same("4 one new", x.closeBatch(), 1);
        Checks.same("4 a duplicate keeps the day, a correction does not", Views.state(x),
                "day 7 batch records 4 a1=5@5 trust 5 b1=8@6 b2=9@5 trust 5 c1=1@6 trust 5 totals 4 3 2 0 3 0 0");
    }

    private static void promise04CloseAtTheLimit() {
        RecordReconciler x = Views.with(Views.row('a', 0, 1, 29, 10));
        x.report('b', 0, 1);
        Checks.same("4 the 30th record", x.closeBatch(), 1);
        x.report('a', 5, 11);
        x.report('a', 6, 10);
        Checks.same("4 no new record at 30", x.closeBatch(), 0);
        x.report('a', 7, 11);
        x.report('c', 999, 1);
        Checks.refused("4 the 31st record", x, STATE, x::closeBatch);
        Checks.same("4 fails as a whole", x.amountOf('a', 7), 10);
        x.withdraw('c', 999, 1);
        Checks.same("4 without it", x.closeBatch(), 0);
        Checks.same("4 the correction is there now", x.amountOf('a', 7), 11);
        x.drop('a', 7);
        x.report('c', 999, 1);
        x.report('c', 999, 2);
        Checks.same("4 room after a drop; the second one is a correction", x.closeBatch(), 1);
        Checks.same("4 corrected in the batch", x.amountOf('c', 999), 2);
        RecordReconciler one = Views.with(Views.row('a', 0, 1, 29, 10));
        one.report('b', 0, 1);
        one.report('b', 1, 1);
        Checks.refused("4 the second of two does not fit", one, STATE, one::closeBatch);
    }

    private static void promise05RejectBatch() {
        RecordReconciler x = Views.with("a1=5");
        x.report('a', 1, 6);
        x.report('b', 1, 6);
        Checks.same("5 answer", x.rejectBatch(), 2);
        Checks.same("5 state", Views.state(x), "day 2 batch records 1 a1=5@0 trust 5 trust 5 trust 5"
                + " totals 1 0 0 0 1 1 0");
        Checks.same("5 empty", x.rejectBatch(), 0);
        Checks.same("5 an empty one counts as well", x.rejectedTotal(), 2);
        Checks.same("5 day", x.day(), 3);
        Checks.same("5 the next batch starts anew", x.report('a', 1, 1), 1);
        RecordReconciler full = Views.full();
        full.report('a', 999, 1);
        Checks.same("5 a batch that can't be closed", full.rejectBatch(), 1);
    }

    private static void promise06Settle() {
        RecordReconciler x = Views.with("a1=5 b1=6 c1=5 a2=5 b2=5 c3=1 b4=1 c4=2");
        Checks.refused("6 source", x, ARGUMENT, () -> x.settle('d', 1));
        Checks.refused("6 key below", x, ARGUMENT, () -> x.settle('a', -1));
        Checks.refused("6 key above", x, ARGUMENT, () -> x.settle('a', 1000));
        Checks.refused("6 no record at all", x, ELEMENT, () -> x.settle('a', 9));
        Checks.refused("6 not this source's, though disputed", x, ELEMENT, () -> x.settle('a', 4));
        Checks.refused("6 not this source's, and open", x, ELEMENT, () -> x.settle('a', 3));
        Checks.refused("6 confirmed", x, STATE, () -> x.settle('a', 2));
        Checks.refused("6 open", x, STATE, () -> x.settle('c', 3));
        Checks.same("6 one of three changes", x.settle('a', 1), 1);
        Checks.same("6 state", Views.state(x), "day 1 batch records 8 a1=5@0 a2=5@0 trust 6 b1=5@0 b2=5@0 b4=1@0"
                + " trust 4 c1=5@0 c3=1@0 c4=2@0 trust 5 totals 8 0 0 0 1 0 1");
        Checks.refused("6 settled already", x, STATE, () -> x.settle('a', 1));
        Checks.same("6 two sources", x.settle('c', 4), 1);
        Checks.same("6 amount", x.amountOf('b', 4), 2);
        Checks.same("6 a source without the key keeps its trust", x.trustOf('a'), 6);
        RecordReconciler y = Views.with("a1=5 b1=6 c1=5");
        Checks.same("6 two of three change", y.settle('b', 1), 2);
        Checks.same("6 trust of both falls", y.trustOf('a') * 100 + y.trustOf('b') * 10 + y.trustOf('c'), 464);
        Checks.same("6 all have the amount", y.amountOf('a', 1) * 100 + y.amountOf('c', 1), 606);
        RecordReconciler z = Views.with("a1=5 b1=6 c1=7");
        Checks.same("6 three amounts", z.settle('c', 1), 2);
        Checks.same("6 and a day later the records keep their day", z.dayOf('a', 1), 0);
    }

    private static void promise06SettleAtTheEndsOfTrust() {
        RecordReconciler x = new RecordReconciler();
        for (int i = 0; i < 7; i++) {
            Views.count(x, "a" + i + "=5 b" + i + "=6");
            x.settle('a', i);
            Checks.same("6 trust goes up to 9 after " + i, x.trustOf('a'), Math.min(9, 6 + i));
            Checks.same("6 trust goes down to 0 after " + i, x.trustOf('b'), Math.max(0, 4 - i));
        }
        Checks.same("6 the third source is not concerned", x.trustOf('c'), 5);
    }

    private static void promise07Drop() {
        RecordReconciler x = Views.with("a1=5 b1=6 a2=7 a3=8");
        Checks.refused("7 source", x, ARGUMENT, () -> x.drop('z', 1));
        Checks.refused("7 key below", x, ARGUMENT, () -> x.drop('a', -1));
        Checks.refused("7 key above", x, ARGUMENT, () -> x.drop('a', 1000));
        Checks.refused("7 other source", x, ELEMENT, () -> x.drop('c', 1));
        Checks.refused("7 other key", x, ELEMENT, () -> x.drop('a', 4));
        Checks.same("7 answer", x.drop('a', 1), 3);
        Checks.same("7 the other source keeps its record", Views.state(x),
                "day 1 batch records 3 a2=7@0 a3=8@0 trust 5 b1=6@0 trust 5 trust 5 totals 4 0 0 1 1 0 0");
        Checks.refused("7 twice", x, ELEMENT, () -> x.drop('a', 1));
        Checks.same("7 next", x.drop('b', 1), 2);
        Checks.same("7 next", x.drop('a', 3), 1);
        Checks.same("7 last", x.drop('a', 2), 0);
        Checks.same("7 nothing left", Views.state(x),
                "day 1 batch records 0 trust 5 trust 5 trust 5 totals 4 0 0 4 1 0 0");
        x.report('a', 1, 5);
        Checks.same("7 a dropped record is new again", x.closeBatch(), 1);
    }

    private static void promise08Pass() {
        RecordReconciler x = new RecordReconciler();
        for (int days : new int[] {0, -1, 100, Integer.MIN_VALUE, Integer.MAX_VALUE}) {
            Checks.refused("8 days " + days, x, ARGUMENT, () -> x.pass(days));
        }
        Checks.same("8 one", x.pass(1), 1);
        Checks.same("8 most", x.pass(99), 100);
        x.report('a', 1, 1);
        Checks.same("8 the batch stays open", x.pass(2), 102);
        Checks.same("8 its reports stay", x.reportCount(), 1);
        x.closeBatch();
        Checks.same("8 the day of closing counts", x.dayOf('a', 1), 102);
    }

    private static void promise09Day() {
        RecordReconciler x = new RecordReconciler();
        Checks.same("9 at first", x.day(), 0);
        x.closeBatch();
        Checks.same("9 after a close", x.day(), 1);
        x.rejectBatch();
        Checks.same("9 after a reject", x.day(), 2);
        x.report('a', 1, 1);
        Checks.same("9 a report takes no day", x.day(), 2);
    }

    private static void promises10To13Reports() {
        RecordReconciler x = new RecordReconciler();
        for (int position : new int[] {0, -1, 1}) {
            refusedPosition(x, position);
        }
        x.report('b', 7, 70);
        x.report('c', 999, 99);
        x.report('a', 0, 1);
        Checks.same("10 number", x.reportCount(), 3);
        Checks.same("11 sources", "" + x.reportSource(0) + x.reportSource(1) + x.reportSource(2), "bca");
        Checks.same("12 keys", x.reportKey(0) + " " + x.reportKey(1) + " " + x.reportKey(2), "7 999 0");
        Checks.same("13 amounts", x.reportAmount(0) + " " + x.reportAmount(1) + " " + x.reportAmount(2), "70 99 1");
        for (int position : new int[] {-1, 3, 11, 12, Integer.MIN_VALUE, Integer.MAX_VALUE}) {
            refusedPosition(x, position);
        }
        x.withdraw('b', 7, 70);
        Checks.same("10 after a withdrawal", x.reportCount(), 2);
        refusedPosition(x, 2);
        x.closeBatch();
        Checks.same("10 after a close", x.reportCount(), 0);
        refusedPosition(x, 0);
    }

    private static void refusedPosition(RecordReconciler x, int position) {
        Checks.refused("11 position " + position, x, INDEX, () -> x.reportSource(position));
        Checks.refused("12 position " + position, x, INDEX, () -> x.reportKey(position));
        Checks.refused("13 position " + position, x, INDEX, () -> x.reportAmount(position));
        Checks.refused("14 position " + position, x, INDEX, () -> x.outcomeOf(position));
    }

    private static void promise14OutcomeOf() {
        RecordReconciler x = Views.with("a1=5 b2=6");
        for (String record : "a1=5 a1=6 a1=5 a1=5 b1=5 a2=6 b2=6 a2=6 c3=1 c3=2 c3=1".split(" ")) {
            Views.report(x, record);
        }
        Checks.same("14 outcomes", outcomes(x), "dccdnnddncc");
        x.withdraw('a', 1, 6);
        Checks.same("14 after a withdrawal", outcomes(x), "dddnnddncc");
        x.drop('a', 1);
        Checks.same("14 after a drop", outcomes(x), "nddnnddncc");
        RecordReconciler full = Views.full();
        for (String record : "a999=1 a999=1 a999=2 a0=10 a0=11 b999=1".split(" ")) {
            Views.report(full, record);
        }
        Checks.same("14 of a batch that can't be closed", outcomes(full), "ndcdcn");
    }

    private static String outcomes(RecordReconciler x) {
        StringBuilder text = new StringBuilder();
        for (int i = 0; i < x.reportCount(); i++) {
            text.append(x.outcomeOf(i));
        }
        return text.toString();
    }

    private static void promise15CanClose() {
        RecordReconciler x = new RecordReconciler();
        Checks.same("15 empty", x.canClose(), true);
        RecordReconciler full = Views.full();
        Checks.same("15 full, empty batch", full.canClose(), true);
        full.report('a', 0, 10);
        full.report('a', 30, 99);
        Checks.same("15 full, no new record", full.canClose(), true);
        full.report('a', 999, 10);
        Checks.same("15 full, a new record", full.canClose(), false);
        full.drop('b', 0);
        Checks.same("15 one place, one new record", full.canClose(), true);
        full.report('a', 999, 11);
        Checks.same("15 one place, reported twice", full.canClose(), true);
        full.report('a', 998, 11);
        Checks.same("15 one place, two new records", full.canClose(), false);
        Checks.same("15 asking changes nothing", full.reportCount(), 5);
    }
}
