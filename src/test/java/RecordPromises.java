import java.util.NoSuchElementException;

/** Promises 16 to 30: counted records and their agreement. */
public final class RecordPromises {
    private static final Class<IllegalArgumentException> ARGUMENT = IllegalArgumentException.class;
    private static final Class<NoSuchElementException> ELEMENT = NoSuchElementException.class;
    private static final Class<IndexOutOfBoundsException> INDEX = IndexOutOfBoundsException.class;

    public static void main(String[] args) {
        promises16And17Counts();
        promise18HasRecord();
        promises19And20AmountAndDay();
        promise21KeyAt();
        promise22OldestKey();
        promise23StatusOf();
        promises24To27Disputes();
        promises28And29Accepted();
        promise30TotalOf();
        thirtyKeys();
        Checks.finish("RecordPromises");
    }

    private static void promises16And17Counts() {
        RecordReconciler x = Views.with("a1=5 b1=5 a2=5 a2=6 a2=6 c7=1");
        Checks.same("16 a record that is reported twice counts once", x.recordCount(), 4);
        Checks.same("17 a", x.recordsOf('a'), 2);
        Checks.same("17 b", x.recordsOf('b'), 1);
        Checks.same("17 c", x.recordsOf('c'), 1);
        x.report('c', 8, 1);
        Checks.same("16 a report is not counted yet", x.recordCount(), 4);
        Checks.same("17 a report is not counted yet", x.recordsOf('c'), 1);
        Checks.refused("17 source", x, ARGUMENT, () -> x.recordsOf('d'));
        Checks.refused("17 source", x, ARGUMENT, () -> x.recordsOf('B'));
        Checks.same("16 full", Views.full().recordCount(), 30);
        Checks.same("17 full", Views.full().recordsOf('b'), 10);
        Checks.same("17 none", new RecordReconciler().recordsOf('a'), 0);
    }

    private static void promise18HasRecord() {
        RecordReconciler x = Views.with("a0=5 b999=5");
        x.report('c', 5, 5);
        Checks.same("18 there", x.hasRecord('a', 0), true);
        Checks.same("18 there", x.hasRecord('b', 999), true);
        Checks.same("18 the other source's", x.hasRecord('b', 0), false);
        Checks.same("18 only reported", x.hasRecord('c', 5), false);
        Checks.refused("18 source", x, ARGUMENT, () -> x.hasRecord('d', 0));
        Checks.refused("18 key below", x, ARGUMENT, () -> x.hasRecord('a', -1));
        Checks.refused("18 key above", x, ARGUMENT, () -> x.hasRecord('a', 1000));
        x.drop('a', 0);
        Checks.same("18 dropped", x.hasRecord('a', 0), false);
    }

    private static void promises19And20AmountAndDay() {
        RecordReconciler x = Views.with("a1=5 b1=6");
        Views.count(x, "a1=7 b1=6 c2=99");
        Checks.same("19 corrected", x.amountOf('a', 1), 7);
        Checks.same("20 corrected", x.dayOf('a', 1), 1);
        Checks.same("19 duplicate", x.amountOf('b', 1), 6);
        Checks.same("20 duplicate", x.dayOf('b', 1), 0);
        Checks.same("19 new", x.amountOf('c', 2), 99);
        Checks.same("20 new", x.dayOf('c', 2), 1);
        Checks.refused("19 source", x, ARGUMENT, () -> x.amountOf('d', 1));
        Checks.refused("19 key below", x, ARGUMENT, () -> x.amountOf('a', -1));
        Checks.refused("19 key above", x, ARGUMENT, () -> x.amountOf('a', 1000));
        Checks.refused("19 no record", x, ELEMENT, () -> x.amountOf('a', 2));
        Checks.refused("19 no key", x, ELEMENT, () -> x.amountOf('a', 3));
        Checks.refused("20 source", x, ARGUMENT, () -> x.dayOf('d', 1));
        Checks.refused("20 key below", x, ARGUMENT, () -> x.dayOf('a', -1));
        Checks.refused("20 key above", x, ARGUMENT, () -> x.dayOf('a', 1000));
        Checks.refused("20 no record", x, ELEMENT, () -> x.dayOf('a', 2));
        Checks.refused("20 no key", x, ELEMENT, () -> x.dayOf('a', 3));
    }

    private static void promise21KeyAt() {
        RecordReconciler x = Views.with("a9=1 b5=1 a3=1 a999=1 b0=1 a4=1");
        Checks.same("21 in the order of keys",
                x.keyAt('a', 0) + " " + x.keyAt('a', 1) + " " + x.keyAt('a', 2) + " " + x.keyAt('a', 3), "3 4 9 999");
        Checks.same("21 b", x.keyAt('b', 0) + " " + x.keyAt('b', 1), "0 5");
        for (int position : new int[] {-1, 4, 30, Integer.MIN_VALUE, Integer.MAX_VALUE}) {
            Checks.refused("21 position " + position, x, INDEX, () -> x.keyAt('a', position));
        }
        Checks.refused("21 no record", x, INDEX, () -> x.keyAt('c', 0));
        Checks.refused("21 source", x, ARGUMENT, () -> x.keyAt('d', 0));
        Checks.refused("21 source and position", x, ARGUMENT, () -> x.keyAt('d', -1));
        x.drop('a', 4);
        Checks.same("21 after a drop", x.keyAt('a', 1), 9);
        Checks.refused("21 after a drop", x, INDEX, () -> x.keyAt('a', 3));
    }

    private static void promise22OldestKey() {
        RecordReconciler x = Views.with("b1=1");
        Views.count(x, "a9=1 a5=1 a7=1");
        Views.count(x, "a3=1");
        Checks.same("22 the lowest key of the lowest day", x.oldestKey('a'), 5);
        Views.count(x, "a5=2");
        Checks.same("22 a correction makes it younger", x.oldestKey('a'), 7);
        Views.count(x, "a7=1");
        Checks.same("22 a duplicate does not", x.oldestKey('a'), 7);
        x.drop('a', 7);
        x.drop('a', 9);
        Checks.same("22 after drops", x.oldestKey('a'), 3);
        Checks.same("22 the other source's", x.oldestKey('b'), 1);
        Views.count(x, "b0=1 b9=1");
        Checks.same("22 younger ones with lower and higher keys", x.oldestKey('b'), 1);
        x.drop('b', 1);
        Views.count(x, "b5=1");
        Checks.same("22 the lowest key is the oldest", x.oldestKey('b'), 0);
        Checks.refused("22 no record", x, ELEMENT, () -> x.oldestKey('c'));
        Checks.refused("22 source", x, ARGUMENT, () -> x.oldestKey('d'));
    }

    private static void promise23StatusOf() {
        RecordReconciler x = Views.with("a1=5 b1=5 a2=5 c2=6 b3=5 a4=5 b4=5 c4=5 a5=5 b5=5 c5=6 a0=1");
        Views.count(x, "a999=5 b999=6 c999=6 a6=6 b6=5 c6=6");
        Checks.same("23 all", "" + x.statusOf(1) + x.statusOf(2) + x.statusOf(3) + x.statusOf(4) + x.statusOf(5)
                + x.statusOf(0) + x.statusOf(999) + x.statusOf(6), "cdocdodd");
        Checks.refused("23 no record", x, ELEMENT, () -> x.statusOf(7));
        Checks.refused("23 below", x, ARGUMENT, () -> x.statusOf(-1));
        Checks.refused("23 above", x, ARGUMENT, () -> x.statusOf(1000));
        x.drop('c', 5);
        Checks.same("23 confirmed after a drop", x.statusOf(5), 'c');
        x.drop('a', 5);
        Checks.same("23 open after two", x.statusOf(5), 'o');
        x.drop('b', 5);
        Checks.refused("23 gone after three", x, ELEMENT, () -> x.statusOf(5));
    }

    private static void promises24To27Disputes() {
        RecordReconciler x = new RecordReconciler();
        Checks.same("24 none", x.confirmedCount(), 0);
        Checks.same("25 none", x.disputedCount(), 0);
        Checks.same("26 none", x.openCount(), 0);
        Checks.refused("27 none", x, ELEMENT, () -> x.disputedAt(0));
        Views.count(x, "a9=5 b9=6 a3=5 b3=5 c3=5 a5=1 b5=1 c5=2 b7=1 c0=1");
        Views.count(x, "b2=4 c2=4 a999=1 b999=2");
        Checks.same("24 confirmed", x.confirmedCount(), 2);
        Checks.same("25 disputed", x.disputedCount(), 3);
        Checks.same("26 open", x.openCount(), 2);
        Checks.same("27 in the order of keys", x.disputedAt(0) + " " + x.disputedAt(1) + " " + x.disputedAt(2),
                "5 9 999");
        for (int position : new int[] {-1, 3, Integer.MIN_VALUE, Integer.MAX_VALUE}) {
            Checks.refused("27 position " + position, x, ELEMENT, () -> x.disputedAt(position));
        }
        x.settle('a', 9);
        Checks.same("24 after settling", x.confirmedCount(), 3);
        Checks.same("25 after settling", x.disputedCount(), 2);
        Checks.same("27 after settling", x.disputedAt(1), 999);
        Checks.same("25 ten keys", Views.full().disputedCount(), 10);
        Checks.same("27 the lowest key of all", Views.full().disputedAt(0), 0);
        Checks.same("27 the tenth", Views.full().disputedAt(9), 270);
    }

    private static void promises28And29Accepted() {
        RecordReconciler x = new RecordReconciler();
        Checks.same("29 none", x.acceptedTotal(), 0);
        Views.count(x, "a1=9 b1=9 c1=2 a2=2 b2=9 c2=9 a3=9 b3=2 c3=9 a4=7 b4=5 c4=6");
        Views.count(x, "b5=9 c5=3 a6=8 a7=4 c7=4 c0=99 b999=1");
        Checks.same("28 two of three", x.acceptedAmount(1) + " " + x.acceptedAmount(2) + " " + x.acceptedAmount(3),
                "9 9 9");
        Checks.same("28 three amounts: the smallest", x.acceptedAmount(4), 5);
        Checks.same("28 two amounts: the smallest", x.acceptedAmount(5), 3);
        Checks.same("28 one", x.acceptedAmount(6), 8);
        Checks.same("28 two that agree", x.acceptedAmount(7), 4);
        Checks.same("28 ends", x.acceptedAmount(0) + " " + x.acceptedAmount(999), "99 1");
        Checks.same("29 sum", x.acceptedTotal(), 9 + 9 + 9 + 5 + 3 + 8 + 4 + 99 + 1);
        Checks.refused("28 no record", x, ELEMENT, () -> x.acceptedAmount(8));
        Checks.refused("28 below", x, ARGUMENT, () -> x.acceptedAmount(-1));
        Checks.refused("28 above", x, ARGUMENT, () -> x.acceptedAmount(1000));
    }

    /** The most keys that can be: the edges of what is asked by position. */
    private static void thirtyKeys() {
        RecordReconciler x = Views.with(Views.row('b', 0, 30, 30, 7));
        Checks.same("21 the last of thirty", x.keyAt('b', 29), 870);
        Checks.refused("21 behind thirty", x, INDEX, () -> x.keyAt('b', 30));
        Checks.refused("27 thirty open keys", x, ELEMENT, () -> x.disputedAt(0));
        Checks.same("26 thirty", x.openCount(), 30);
        Checks.same("29 thirty", x.acceptedTotal(), 210);
        x.drop('b', 870);
        Checks.refused("23 the last of thirty dropped", x, ELEMENT, () -> x.statusOf(870));
        x.drop('b', 0);
        Checks.same("21 the first of thirty dropped", x.keyAt('b', 0) * 1000 + x.keyAt('b', 27), 30840);
    }

    private static void promise30TotalOf() {
        RecordReconciler x = Views.with("a1=9 b1=2 a2=30 c4=99");
        Checks.same("30 a", x.totalOf('a'), 39);
        Checks.same("30 b", x.totalOf('b'), 2);
        Checks.same("30 c", x.totalOf('c'), 99);
        x.drop('c', 4);
        Checks.same("30 none", x.totalOf('c'), 0);
        Checks.refused("30 source", x, ARGUMENT, () -> x.totalOf('d'));
        Checks.same("30 most", Views.with(Views.row('a', 0, 30, 30, 99)).totalOf('a'), 2970);
    }
}
