/** Promises 16 to 30, and the terms' sentences about agreement. */
final class RecordBoundaries extends Boundary {
    private static final String POSITION = "`position`: the position, starting at 0";
    /** 15 keys, 0, 40, .., 560, that all differ by 1 between two sources. */
    private static final Scene DISPUTES = counted(Views.row('a', 0, 40, 12, 50), Views.row('c', 0, 40, 12, 51),
            Views.row('a', 480, 40, 3, 51), Views.row('b', 480, 40, 3, 50));
    private static final Scene THIRTY_KEYS = counted(Views.row('b', 0, 30, 30, 7));

    private RecordBoundaries() {
    }

    static void go() {
        counts();
        amountAndDay();
        keyAt();
        oldestKey();
        agreement();
        statusOf();
        statusCounts();
        disputedAt();
        accepted();
        totalOf();
        noRecord(19, RecordReconciler::amountOf);
        noRecord(20, RecordReconciler::dayOf);
        noKey(23, RecordReconciler::statusOf);
        noKey(28, RecordReconciler::acceptedAmount);
        for (int promise : new int[] {16, 17, 24, 25, 26}) {
            plain(promise, "Returns the number.");
        }
        plain(0, "Agreement.");
    }

    private static void counts() {
        test(16, "Returns the number of counted records.", () -> {
            answers("none", EMPTY, 0, RecordReconciler::recordCount);
            answers("none but reports", reported("a1=1 b1=1"), 0, RecordReconciler::recordCount);
            answers("one", counted("a1=1"), 1, RecordReconciler::recordCount);
            answers("30", FULL, 30, RecordReconciler::recordCount);
            answers("29", FULL.then(x -> x.drop('b', 0)), 29, RecordReconciler::recordCount);
            answers("30 of one source", THIRTY_KEYS, 30, RecordReconciler::recordCount);
            answers("none any more", counted("a1=1").then(x -> x.drop('a', 1)), 0, RecordReconciler::recordCount);
            answers("30 and a closing that fails", FULL.then(reported("a1=1")).then(x -> Checks.outcome(x::closeBatch)), 30,
                    RecordReconciler::recordCount);
        });
        test(17, "Returns the number of counted records of a source.", () -> {
            answers("none", counted("a1=1 c1=1").then(reported("b1=1")), 0, x -> x.recordsOf('b'));
            answers("one", counted("a1=1 c1=1 b1=1"), 1, x -> x.recordsOf('b'));
            answers("30", THIRTY_KEYS, 30, x -> x.recordsOf('b'));
            answers("none of 30", THIRTY_KEYS, "0 0", x -> x.recordsOf('a') + " " + x.recordsOf('c'));
            answers("a third", FULL, "10 10 10", x -> x.recordsOf('a') + " " + x.recordsOf('b') + " " + x.recordsOf('c'));
            answers("none any more", counted("a1=1 b1=1").then(x -> x.drop('a', 1)), "0 1",
                    x -> x.recordsOf('a') + " " + x.recordsOf('b'));
        });
        test(18, "Returns whether a source has a counted record with a key.", () -> {
            Scene scene = counted("b17=1 a16=1 c18=1 a0=1 c999=1").then(reported("a17=1"));
            for (char source : SOURCES) {
                for (int key : new int[] {0, 1, 16, 17, 18, 998, 999}) {
                    boolean due = " b17 a16 c18 a0 c999 ".contains(" " + source + key + " ");
                    answers(source + "" + key, scene, due, x -> x.hasRecord(source, key));
                }
            }
            answers("none", EMPTY, false, x -> x.hasRecord('a', 0));
            answers("counted then", scene.then(RecordReconciler::closeBatch), true, x -> x.hasRecord('a', 17));
            answers("rejected then", scene.then(RecordReconciler::rejectBatch), false, x -> x.hasRecord('a', 17));
            answers("dropped then", scene.then(x -> x.drop('b', 17)), false, x -> x.hasRecord('b', 17));
        });
        plain(18, "Returns true if it has.");
    }

    private static void amountAndDay() {
        test(19, "Returns the amount of a counted record.", () -> {
            for (int amount : AMOUNTS) {
                answers("" + amount, counted("b17=" + amount), amount, x -> x.amountOf('b', 17));
            }
            answers("corrected from 1 to 99", counted("b17=1", "b17=99"), 99, x -> x.amountOf('b', 17));
            answers("not that of the open batch", counted("b17=1").then(reported("b17=99")), 1, x -> x.amountOf('b', 17));
            answers("the last of thirty keys", THIRTY_KEYS, 7, x -> x.amountOf('b', 870));
        });
        plain(19, "Returns the amount.");
        test(20, "Returns the day of a counted record.", () -> {
            answers("day 0", counted("b17=1"), 0, x -> x.dayOf('b', 17));
            answers("day 1", counted("a1=1", "b17=1"), 1, x -> x.dayOf('b', 17));
            answers("days after the report", reported("b17=1").then(x -> x.pass(99)).then(RecordReconciler::closeBatch), 99,
                    x -> x.dayOf('b', 17));
            answers("a late day", repeated(400, x -> x.pass(99)).then(counted("b17=1")), 39600, x -> x.dayOf('b', 17));
            answers("corrected by 1", counted("b17=1", "b17=2"), 1, x -> x.dayOf('b', 17));
            answers("corrected by nothing", counted("b17=1", "b17=1"), 0, x -> x.dayOf('b', 17));
            answers("corrected to and fro", counted("b17=1", "b17=2 b17=1"), 1, x -> x.dayOf('b', 17));
            answers("settled", counted("a17=2", "b17=1").then(x -> x.settle('b', 17)), 0, x -> x.dayOf('a', 17));
            Scene late = counted("a0=1", "b18=1", "c500=1", "b999=1");
            answers("with lower keys that come", late.then(counted("b17=1 a1=1")), "1 2 3",
                    x -> x.dayOf('b', 18) + " " + x.dayOf('c', 500) + " " + x.dayOf('b', 999));
            answers("with lower keys that go", late.then(x -> x.drop('a', 0)), "1 2 3",
                    x -> x.dayOf('b', 18) + " " + x.dayOf('c', 500) + " " + x.dayOf('b', 999));
            answers("of the first of thirty", counted("c0=5").then(x -> x.drop('c', 0)).then(THIRTY_KEYS), "1 3",
                    x -> x.dayOf('b', 0) + " " + x.dayOf('b', 870));
            answers("dropped and counted anew", counted("b17=1").then(x -> x.drop('b', 17)).then(counted("b17=1")), 1,
                    x -> x.dayOf('b', 17));
        });
        plain(20, "Returns the day.");
    }

    private static void keyAt() {
        String sentence = "Throws `IndexOutOfBoundsException` if the position is negative or not less than the number of "
                + "counted records of the source";
        test(21, "Returns the key of a counted record of a source by its position in the order of keys.", () -> {
            Scene scene = counted("b999=1 a500=1 b0=1", "b500=1 c1=1 b1=1 b998=1");
            for (int i = 0; i < 5; i++) {
                int position = i;
                answers("" + i, scene, new int[] {0, 1, 500, 998, 999}[i], x -> x.keyAt('b', position));
            }
            answers("whatever the days and amounts", counted("b9=1", "b8=99", "b9=50"), 8, x -> x.keyAt('b', 0));
        });
        test(21, POSITION, () -> {
            answers("0", THIRTY_KEYS, 0, x -> x.keyAt('b', 0));
            answers("1", THIRTY_KEYS, 30, x -> x.keyAt('b', 1));
            answers("28", THIRTY_KEYS, 840, x -> x.keyAt('b', 28));
            answers("29", THIRTY_KEYS, 870, x -> x.keyAt('b', 29));
            refused("-1", THIRTY_KEYS, INDEX, x -> x.keyAt('b', -1));
        });
        plain(21, "Returns the key.");
        test(21, sentence, () -> {
            positions(EMPTY, 0, INDEX, (x, position) -> x.keyAt('b', position));
            positions(counted("a1=1 a2=1 c1=1").then(reported("b1=1")), 0, INDEX, (x, position) -> x.keyAt('b', position));
            positions(counted("b1=1 a2=1 c1=1"), 1, INDEX, (x, position) -> x.keyAt('b', position));
            positions(FULL, 10, INDEX, (x, position) -> x.keyAt('b', position));
            positions(THIRTY_KEYS, 30, INDEX, (x, position) -> x.keyAt('b', position));
            positions(THIRTY_KEYS.then(x -> x.drop('b', 870)), 29, INDEX, (x, position) -> x.keyAt('b', position));
        });
    }

    private static void oldestKey() {
        test(22, "Returns the key of the counted record of a source with the lowest day.", () -> {
            answers("one", counted("b17=1"), 17, x -> x.oldestKey('b'));
            answers("a higher key of a lower day", counted("b18=1", "b17=1"), 18, x -> x.oldestKey('b'));
            answers("a lower key of a lower day", counted("b17=1", "b18=1"), 17, x -> x.oldestKey('b'));
            answers("between", counted("b18=1", "b17=1 b19=1"), 18, x -> x.oldestKey('b'));
            answers("not another source's", counted("a16=1", "b17=1", "b16=1"), 17, x -> x.oldestKey('b'));
            answers("corrected", counted("b17=1", "b18=1", "b17=2"), 18, x -> x.oldestKey('b'));
            answers("corrected by nothing", counted("b17=1", "b18=1", "b17=1"), 17, x -> x.oldestKey('b'));
            answers("dropped", counted("b17=1", "b18=1", "b16=1").then(x -> x.drop('b', 17)), 18, x -> x.oldestKey('b'));
        });
        test(22, "Of several such records it is the lowest key.", () -> {
            answers("two", counted("b18=1 b17=1"), 17, x -> x.oldestKey('b'));
            answers("two of three", counted("b18=1 b17=1", "b16=1"), 17, x -> x.oldestKey('b'));
            answers("of thirty", THIRTY_KEYS, 0, x -> x.oldestKey('b'));
            answers("ends of the keys", counted("b999=1 b0=1"), 0, x -> x.oldestKey('b'));
            answers("the lowest is a day later", counted("b999=1 b998=1", "b0=1"), 998, x -> x.oldestKey('b'));
        });
        plain(22, "Returns the key.");
        test(22, "Throws `NoSuchElementException` if the source has no counted record", () -> {
            refused("none at all", EMPTY, ELEMENT, x -> x.oldestKey('b'));
            refused("others have, and one is reported", counted("a1=1 c1=1").then(reported("b1=1")), ELEMENT,
                    x -> x.oldestKey('b'));
            neverThrows("one", counted("a1=1 c1=1 b1=1"), ELEMENT, x -> x.oldestKey('b'));
            refused("dropped", counted("a1=1 c1=1 b1=1").then(x -> x.drop('b', 1)), ELEMENT, x -> x.oldestKey('b'));
            neverThrows("one of two dropped", counted("b1=1 b2=1").then(x -> x.drop('b', 1)), ELEMENT,
                    x -> x.oldestKey('b'));
        });
    }

    private static void status(String records, char due) {
        answers(records, counted(records), due, x -> x.statusOf(17));
    }

    private static void agreement() {
        test(23, "Two counted records of different sources with the same key agree if their amounts are equal.", () -> {
            status("a17=50 b17=50", 'c');
            status("a17=50 b17=49", 'd');
            status("a17=50 b17=51", 'd');
            status("a17=1 c17=1", 'c');
            status("b17=99 c17=99", 'c');
            status("b17=1 c17=99", 'd');
            status("a17=50 b18=50 c16=50", 'o');
        });
        test(23, "A key is confirmed if at least two sources have a counted record with this key and all counted records "
                + "with this key agree; it is disputed if two counted records with this key do not agree; otherwise, with "
                + "one counted record, it is open.", () -> {
            status("a17=50", 'o');
            status("b17=50", 'o');
            status("c17=50", 'o');
            status("a17=50 c17=50", 'c');
            status("a17=50 b17=50 c17=50", 'c');
            status("a17=51 b17=50 c17=50", 'd');
            status("a17=50 b17=51 c17=50", 'd');
            status("a17=50 b17=50 c17=51", 'd');
            status("a17=49 b17=50 c17=51", 'd');
            status("a17=50 a17=51 a17=50", 'o');
        });
    }

    private static void statusOf() {
        test(23, "Returns the status of a key.", () -> {
            Scene two = counted("a17=50 b17=51");
            answers("two", two, 'd', x -> x.statusOf(17));
            answers("not those of the open batch", two.then(reported("a17=51")), 'd', x -> x.statusOf(17));
            answers("corrected", two.then(counted("a17=51")), 'c', x -> x.statusOf(17));
            answers("one dropped", two.then(x -> x.drop('b', 17)), 'o', x -> x.statusOf(17));
            answers("settled", two.then(x -> x.settle('b', 17)), 'c', x -> x.statusOf(17));
            answers("settled and undone", two.then(x -> x.settle('b', 17)).then(RecordReconciler::undo), 'd',
                    x -> x.statusOf(17));
        });
        test(23, "Returns 'c' if it is confirmed, 'd' if it is disputed, 'o' if it is open.", () ->
                answers("all three", counted("a16=1 b16=1 a17=1 b17=2 a18=1"), "cdo",
                        x -> "" + x.statusOf(16) + x.statusOf(17) + x.statusOf(18)));
    }

    private static void statusCounts() {
        Scene confirmed = counted(Views.row('a', 0, 40, 15, 50), Views.row('b', 0, 40, 15, 50));
        test(24, "Returns the number of confirmed keys.", () -> {
            answers("none", EMPTY, 0, RecordReconciler::confirmedCount);
            answers("none of thirty", THIRTY_KEYS, 0, RecordReconciler::confirmedCount);
            answers("most", confirmed, 15, RecordReconciler::confirmedCount);
            answers("a key of three counts once", counted("a1=1 b1=1 c1=1"), 1, RecordReconciler::confirmedCount);
            answers("one record less", confirmed.then(x -> x.drop('a', 0)), 14, RecordReconciler::confirmedCount);
            answers("one amount more", confirmed.then(counted("b560=51")), 14, RecordReconciler::confirmedCount);
        });
        test(25, "Returns the number of disputed keys.", () -> {
            answers("none", EMPTY, 0, RecordReconciler::disputedCount);
            answers("none of thirty", THIRTY_KEYS, 0, RecordReconciler::disputedCount);
            answers("none of fifteen", confirmed, 0, RecordReconciler::disputedCount);
            answers("most", DISPUTES, 15, RecordReconciler::disputedCount);
            answers("a key of three counts once", counted("a1=1 b1=2 c1=3"), 1, RecordReconciler::disputedCount);
            answers("one settled", DISPUTES.then(x -> x.settle('a', 0)), 14, RecordReconciler::disputedCount);
        });
        test(26, "Returns the number of open keys.", () -> {
            answers("none", EMPTY, 0, RecordReconciler::openCount);
            answers("none of fifteen", confirmed, 0, RecordReconciler::openCount);
            answers("most", THIRTY_KEYS, 30, RecordReconciler::openCount);
            answers("one less", THIRTY_KEYS.then(x -> x.drop('b', 870)), 29, RecordReconciler::openCount);
            answers("a second source", THIRTY_KEYS.then(x -> x.drop('b', 870)).then(counted("c0=7")), 28,
                    RecordReconciler::openCount);
            answers("two open ones, one source less each", counted("a1=1 b1=1 a2=1 b2=2").then(x -> x.drop('a', 1))
                    .then(x -> x.drop('b', 2)), 2, RecordReconciler::openCount);
        });
    }

    private static void disputedAt() {
        test(27, "Returns a disputed key by its position in the order of keys.", () -> {
            Scene scene = counted("c999=1 b999=2 a1=1 c1=1 b5=1 b0=1 c0=2 a998=1 b998=2 a2=9 c2=8");
            for (int i = 0; i < 4; i++) {
                int position = i;
                answers("" + i, scene, new int[] {0, 2, 998, 999}[i], x -> x.disputedAt(position));
            }
        });
        test(27, POSITION, () -> {
            answers("0", DISPUTES, 0, x -> x.disputedAt(0));
            answers("1", DISPUTES, 40, x -> x.disputedAt(1));
            answers("13", DISPUTES, 520, x -> x.disputedAt(13));
            answers("14", DISPUTES, 560, x -> x.disputedAt(14));
            refused("-1", DISPUTES, ELEMENT, x -> x.disputedAt(-1));
        });
        plain(27, "Returns the key.");
        test(27, "Throws `NoSuchElementException` if there is no such position", () -> {
            positions(EMPTY, 0, ELEMENT, RecordReconciler::disputedAt);
            positions(THIRTY_KEYS, 0, ELEMENT, RecordReconciler::disputedAt);
            positions(counted("a1=1 b1=1 a2=1 b2=2 a3=1").then(reported("b1=2")), 1, ELEMENT, RecordReconciler::disputedAt);
            positions(DISPUTES, 15, ELEMENT, RecordReconciler::disputedAt);
            positions(DISPUTES.then(x -> x.settle('a', 0)), 14, ELEMENT, RecordReconciler::disputedAt);
        });
    }

    private static void acceptedOf(String records, int due) {
        answers(records, counted(records), due, x -> x.acceptedAmount(17));
    }

    private static void accepted() {
        test(28, "The accepted amount of a key is the amount that most of its counted records have; of several such amounts "
                + "it is the smallest one.", () -> {
            for (String one : "a b c".split(" ")) {
                acceptedOf(one + "17=50", 50);
            }
            acceptedOf("a17=50 b17=50 c17=1", 50);
            acceptedOf("a17=50 b17=1 c17=50", 50);
            acceptedOf("a17=1 b17=50 c17=50", 50);
            acceptedOf("a17=50 b17=50 c17=51", 50);
            acceptedOf("a17=50 b17=49", 49);
            acceptedOf("b17=49 c17=50", 49);
            acceptedOf("a17=1 c17=99", 1);
            acceptedOf("a17=1 b17=2 c17=3", 1);
            acceptedOf("a17=2 b17=1 c17=3", 1);
            acceptedOf("a17=3 b17=2 c17=1", 1);
            acceptedOf("a17=99 b17=99 c17=99", 99);
        });
        test(28, "Returns the accepted amount of a key.", () -> {
            Scene scene = counted("a17=50 b17=50 c17=49 a16=1 a18=1");
            answers("two of three", scene, 50, x -> x.acceptedAmount(17));
            answers("one dropped: the smallest", scene.then(x -> x.drop('a', 17)), 49, x -> x.acceptedAmount(17));
            answers("the open batch has no voice", scene.then(reported("b17=49")), 50, x -> x.acceptedAmount(17));
            answers("until it is closed", scene.then(counted("b17=49")), 49, x -> x.acceptedAmount(17));
        });
        plain(28, "Returns the amount.");
        test(29, "Returns the sum of the accepted amounts of all keys with counted records.", () -> {
            answers("none", EMPTY, 0, RecordReconciler::acceptedTotal);
            answers("none but reports", reported("a1=1"), 0, RecordReconciler::acceptedTotal);
            answers("one", counted("a1=1"), 1, RecordReconciler::acceptedTotal);
            answers("a key of three counts once", counted("a1=50 b1=50 c1=50 a2=1"), 51, RecordReconciler::acceptedTotal);
            answers("most", counted(Views.row('c', 970, 1, 30, 99)), 2970, RecordReconciler::acceptedTotal);
            answers("disputes", DISPUTES, 15 * 50, RecordReconciler::acceptedTotal);
            answers("dropped", counted("a1=1").then(x -> x.drop('a', 1)), 0, RecordReconciler::acceptedTotal);
        });
        plain(29, "Returns the sum.");
    }

    private static void totalOf() {
        test(30, "Returns the sum of the amounts of the counted records of a source.", () -> {
            answers("none", EMPTY, 0, x -> x.totalOf('b'));
            answers("none of this source's", counted("a1=1 c1=1").then(reported("b1=1")), 0, x -> x.totalOf('b'));
            answers("one", counted("a1=1 c1=2 b1=3"), "1 3 2",
                    x -> x.totalOf('a') + " " + x.totalOf('b') + " " + x.totalOf('c'));
            answers("most", counted(Views.row('b', 970, 1, 30, 99)), 2970, x -> x.totalOf('b'));
            answers("one dropped", counted(Views.row('b', 970, 1, 30, 99)).then(x -> x.drop('b', 999)), 2871,
                    x -> x.totalOf('b'));
            answers("corrected", counted("b1=1 b2=2", "b1=99"), 101, x -> x.totalOf('b'));
            answers("settled", counted("b1=1 c1=9 b2=2").then(x -> x.settle('c', 1)), 11, x -> x.totalOf('b'));
        });
        plain(30, "Returns the sum.");
    }
}
