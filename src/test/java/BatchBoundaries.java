/** Promises 1 to 15, and the terms' sentences about records and batches. */
final class BatchBoundaries extends Boundary {
    private static final String NO_REPORT = "Throws `IndexOutOfBoundsException` if there is no such report";
    private static final String POSITION = "`position`: the position, starting at 0";
    private static final String IN_ORDER = "When the open batch is closed, its reports are carried out in the order in "
            + "which they arrived: a new record becomes a counted record of the present day; a correction gives the "
            + "counted record its amount, and the present day; a duplicate changes nothing, but is counted as a "
            + "duplicate.";
    private static final String FAILS_AS_A_WHOLE = "If a report would be a new record although 30 counted records exist, "
            + "the closing fails as a whole.";
    private static final String NEXT_DAY =
            "In both cases the day increases by 1 afterwards, and an empty batch is opened.";
    private static final String TWELVE = "Reports arrive one by one in the open batch; a batch holds at most 12 reports.";

    /** 12 reports, no two of which have anything in common. */
    private static final String DOZEN = "c988=99 b989=98 a990=97 c991=96 b992=95 a993=94 c994=93 b995=92 a996=91"
            + " c997=90 b998=89 a999=88";
    /** 29 and 30 counted records of one source. */
    private static final Scene ROOM_FOR_ONE = counted(Views.row('a', 0, 1, 29, 10));
    private static final Scene NO_ROOM = counted(Views.row('a', 0, 1, 30, 10));

    private BatchBoundaries() {
    }

    static void go() {
        newObject();
        records();
        report();
        withdraw();
        carriedOut();
        countedInTheSameBatch();
        thirtyRecords();
        closeBatch();
        rejectBatch();
        nextDay();
        settle();
        drop();
        pass();
        day();
        reports();
        outcomeOf();
        canClose();
    }

    private static Scene reports(int number) {
        return x -> {
            String[] reports = DOZEN.split(" ");
            for (int i = 0; i < number; i++) {
                Views.report(x, reports[i]);
            }
        };
    }

    private static String outcomes(RecordReconciler x) {
        StringBuilder text = new StringBuilder();
        for (int i = 0; i < x.reportCount(); i++) {
            text.append(x.outcomeOf(i));
        }
        return text.toString();
    }

    private static void newObject() {
        test(1, "Creates a service without records, on day 0, with an empty open batch.", () -> {
            answers("records", EMPTY, 0, RecordReconciler::recordCount);
            answers("day", EMPTY, 0, RecordReconciler::day);
            answers("batch", EMPTY, 0, RecordReconciler::reportCount);
            answers("all else", EMPTY, "day 0 batch records 0 trust 5 trust 5 trust 5 totals 0 0 0 0 0 0 0", Views::state);
            answers("a record more", counted("a0=1"), 1, RecordReconciler::recordCount);
            answers("a day later", x -> x.pass(1), 1, RecordReconciler::day);
            answers("a report more", reported("a0=1"), 1, RecordReconciler::reportCount);
            answers("one object does not know of another one", x -> counted("a0=1").play(new RecordReconciler()), 0,
                    RecordReconciler::recordCount);
        });
    }

    private static void records() {
        test(16, "A record that is reported twice counts once.", () -> {
            answers("once", counted("a17=40"), 1, RecordReconciler::recordCount);
            answers("twice in a batch", counted("a17=40 a17=40"), 1, RecordReconciler::recordCount);
            answers("twice in two batches", counted("a17=40", "a17=40"), 1, RecordReconciler::recordCount);
            answers("twelve times", counted(Views.row('a', 17, 0, 12, 40)), 1, RecordReconciler::recordCount);
            answers("with another amount", counted("a17=40 a17=41", "a17=42"), 1, RecordReconciler::recordCount);
            answers("with another key", counted("a17=40 a18=40"), 2, RecordReconciler::recordCount);
            answers("of another source", counted("a17=40 b17=40"), 2, RecordReconciler::recordCount);
        });
        test(2, "A record has a key from 0 to 999, an amount from 1 to 99, and a source, which is 'a', 'b' or 'c'.", () -> {
            for (String record : "a0=1 a0=99 b999=1 c999=99 a1=2 c998=98".split(" ")) {
                Scene scene = counted(record);
                char source = record.charAt(0);
                int key = Integer.parseInt(record.substring(1, record.indexOf('=')));
                answers(record, scene, record.substring(record.indexOf('=') + 1), x -> x.amountOf(source, key));
            }
            refused("key below", EMPTY, ARGUMENT, x -> x.report('a', -1, 1));
            refused("key above", EMPTY, ARGUMENT, x -> x.report('c', 1000, 99));
            refused("amount below", EMPTY, ARGUMENT, x -> x.report('a', 0, 0));
            refused("amount above", EMPTY, ARGUMENT, x -> x.report('c', 999, 100));
            refused("source below", EMPTY, ARGUMENT, x -> x.report('`', 0, 1));
            refused("source above", EMPTY, ARGUMENT, x -> x.report('d', 999, 99));
        });
        test(14, "A report of a source with a key that a counted record of this source has is a duplicate if the amounts "
                + "are equal, and a correction otherwise.", () -> {
            for (int amount : new int[] {1, 49, 50, 51, 99}) {
                answers("amount " + amount, counted("a17=50").then(reported("a17=" + amount)), amount == 50 ? 'd' : 'c',
                        x -> x.outcomeOf(0));
            }
            answers("1 again", counted("a0=1").then(reported("a0=1")), 'd', x -> x.outcomeOf(0));
            answers("99 again", counted("c999=99").then(reported("c999=99")), 'd', x -> x.outcomeOf(0));
        });
        test(14, "A report with a new key is a new record.", () -> {
            for (int key : new int[] {0, 16, 17, 18, 999}) {
                answers("key " + key, counted("b17=50").then(reported("b" + key + "=50")), key == 17 ? 'd' : 'n',
                        x -> x.outcomeOf(0));
            }
            answers("the key is another source's", counted("a17=50 c17=50").then(reported("b17=50")), 'n',
                    x -> x.outcomeOf(0));
            answers("the first one of all", reported("a0=1"), 'n', x -> x.outcomeOf(0));
            answers("the key was dropped", counted("b17=50").then(x -> x.drop('b', 17)).then(reported("b17=50")), 'n',
                    x -> x.outcomeOf(0));
        });
        plain(0, "Records.");
    }

    private static void report() {
        plain(2, "Adds a report to the open batch.");
        test(2, TWELVE, () -> {
            answers("the 11th", reports(10), 11, x -> x.report('a', 0, 1));
            answers("the 12th", reports(11), 12, x -> x.report('a', 0, 1));
            refused("the 13th", reports(12), STATE, x -> x.report('a', 0, 1));
            answers("all 12 are carried out", reports(12), 12, RecordReconciler::closeBatch);
            answers("12 in the next batch", reports(12).then(RecordReconciler::closeBatch).then(reports(11)), 12,
                    x -> x.report('a', 0, 1));
            answers("12 after a rejected batch", reports(12).then(RecordReconciler::rejectBatch).then(reports(11)), 12,
                    x -> x.report('a', 0, 1));
        });
        test(2, "Returns the number of reports in the open batch afterwards.", () -> {
            for (int number = 0; number < 12; number++) {
                answers("report " + number, reports(number), number + 1, x -> x.report('a', 0, 1));
            }
        });
        test(2, "Throws `IllegalStateException` if the open batch has 12 reports", () -> {
            neverThrows("11 reports", reports(11), STATE, x -> x.report('c', 999, 99));
            refused("12 reports", reports(12), STATE, x -> x.report('c', 999, 99));
            refused("12 reports, a duplicate", reports(12), STATE, x -> x.report('c', 988, 99));
            refused("12 reports, all alike", repeated(12, reported("a0=1")), STATE, x -> x.report('a', 0, 1));
            answers("12 reports less one", reports(12).then(x -> x.withdraw('a', 999, 88)), 12, x -> x.report('c', 999, 99));
            refused("that one again", reports(12).then(x -> x.withdraw('a', 999, 88)).then(x -> x.report('a', 999, 88)),
                    STATE, x -> x.report('c', 999, 99));
            answers("12 reports less one by undo", reports(12).then(RecordReconciler::undo), 12,
                    x -> x.report('c', 999, 99));
        });
    }

    private static void withdraw() {
        test(3, "Removes the latest report with this source, key and amount from the open batch.", () -> {
            answers("the latest of one", reported("a17=40"), "", x -> afterWithdrawal(x));
            answers("the latest of two", reported("a17=40 a17=40 b1=1"), "a17=40n b1=1n", x -> afterWithdrawal(x));
            answers("the latest is the last", reported("a17=40 b1=1 a17=40"), "a17=40n b1=1n", x -> afterWithdrawal(x));
            answers("the latest is the first", reported("a17=40 b1=1 a17=41"), "b1=1n a17=41n", x -> afterWithdrawal(x));
            answers("of three, with others between", reported("a17=40 a17=41 a17=40 a17=39 a17=40 a17=41"),
                    "a17=40n a17=41c a17=40c a17=39c a17=41c", x -> afterWithdrawal(x));
            answers("the first of twelve", reported("a17=40").then(reports(11)), DOZEN.replace(" a999=88", "")
                    .replace(" ", "n ") + "n", x -> afterWithdrawal(x));
            answers("the last of twelve", reports(11).then(reported("a17=40")), DOZEN.replace(" a999=88", "")
                    .replace(" ", "n ") + "n", x -> afterWithdrawal(x));
        });
        test(3, "Returns the number of reports in the open batch afterwards.", () -> {
            answers("of one", reported("a17=40"), 0, x -> x.withdraw('a', 17, 40));
            answers("of two", reported("a17=40 a17=40"), 1, x -> x.withdraw('a', 17, 40));
            answers("of twelve", reports(12), 11, x -> x.withdraw('c', 988, 99));
        });
        test(3, "Throws `NoSuchElementException` if there is no such report", () -> {
            refused("empty batch", EMPTY, ELEMENT, x -> x.withdraw('a', 17, 40));
            Scene one = reported("b17=40");
            answers("this one", one, 0, x -> x.withdraw('b', 17, 40));
            refused("source before", one, ELEMENT, x -> x.withdraw('a', 17, 40));
            refused("source after", one, ELEMENT, x -> x.withdraw('c', 17, 40));
            refused("key below", one, ELEMENT, x -> x.withdraw('b', 16, 40));
            refused("key above", one, ELEMENT, x -> x.withdraw('b', 18, 40));
            refused("amount below", one, ELEMENT, x -> x.withdraw('b', 17, 39));
            refused("amount above", one, ELEMENT, x -> x.withdraw('b', 17, 41));
            refused("source, key and amount of three", reported("a17=39 b18=40 c16=40 b17=41"), ELEMENT,
                    x -> x.withdraw('b', 17, 40));
            refused("withdrawn", one.then(x -> x.withdraw('b', 17, 40)), ELEMENT, x -> x.withdraw('b', 17, 40));
            answers("withdrawn, of two", one.then(one).then(x -> x.withdraw('b', 17, 40)), 0,
                    x -> x.withdraw('b', 17, 40));
            refused("counted", counted("b17=40"), ELEMENT, x -> x.withdraw('b', 17, 40));
            refused("rejected", one.then(RecordReconciler::rejectBatch), ELEMENT, x -> x.withdraw('b', 17, 40));
            refused("taken back", one.then(RecordReconciler::undo), ELEMENT, x -> x.withdraw('b', 17, 40));
        });
    }

    private static String afterWithdrawal(RecordReconciler x) {
        x.withdraw('a', 17, 40);
        x.formatBatch();
        return Views.line(x);
    }

    private static void carriedOut() {
        test(4, IN_ORDER, () -> {
            Scene first = x -> x.pass(3);
            Scene counted = first.then(counted("a1=50 b1=50"));
            answers("a new record", counted, "50 3", x -> x.amountOf('a', 1) + " " + x.dayOf('a', 1));
            answers("a correction by 1", counted.then(counted("a1=51")), "51 4",
                    x -> x.amountOf('a', 1) + " " + x.dayOf('a', 1));
            answers("a duplicate", counted.then(counted("a1=50")), "50 3", x -> x.amountOf('a', 1) + " " + x.dayOf('a', 1));
            answers("it is counted", counted.then(counted("a1=50")), 1, RecordReconciler::duplicateTotal);
            answers("a correction is none", counted.then(counted("a1=51")), 0, RecordReconciler::duplicateTotal);
            answers("to and fro", counted.then(counted("a1=51 a1=50")), "50 4 2",
                    x -> x.amountOf('a', 1) + " " + x.dayOf('a', 1) + " " + x.correctionTotal());
            answers("the last of two counts", counted("a1=50 a1=51"), 51, x -> x.amountOf('a', 1));
            answers("the other order", counted("a1=51 a1=50"), 50, x -> x.amountOf('a', 1));
            answers("of twelve", counted("a1=1 a1=2 a1=3 a1=4 a1=5 a1=6 a1=7 a1=8 a1=9 a1=10 a1=11 a1=12"), "12 11",
                    x -> x.amountOf('a', 1) + " " + x.correctionTotal());
            answers("none", counted.then(RecordReconciler::closeBatch), "50 3 0 0",
                    x -> x.amountOf('a', 1) + " " + x.dayOf('a', 1) + " " + x.duplicateTotal() + " " + x.correctionTotal());
        });
        plain(0, "Batches.");
    }

    private static void countedInTheSameBatch() {
        String sentence = "For this order, reports that were carried out before in the same batch count as well.";
        test(14, sentence, () -> {
            answers("the second", reported("a1=5 a1=5"), "nd", BatchBoundaries::outcomes);
            answers("the second with another amount", reported("a1=5 a1=6"), "nc", BatchBoundaries::outcomes);
            answers("only those before", reported("a1=6 a1=5 a1=6 a1=6"), "nccd", BatchBoundaries::outcomes);
            answers("not another source's", reported("a1=5 b1=5 c1=5"), "nnn", BatchBoundaries::outcomes);
            answers("not another key's", reported("a1=5 a2=5 a0=5"), "nnn", BatchBoundaries::outcomes);
            answers("the first and the twelfth", reported("a0=1").then(reports(10)).then(reported("a0=1")), "nnnnnnnnnnnd",
                    BatchBoundaries::outcomes);
            answers("with a counted record", counted("a1=5").then(reported("a1=6 a1=6 a1=5 a1=5")), "cdcd",
                    BatchBoundaries::outcomes);
            answers("not in the next batch, if rejected", reported("a1=5").then(RecordReconciler::rejectBatch)
                    .then(reported("a1=5")), "n", BatchBoundaries::outcomes);
            answers("not if withdrawn", reported("a1=5 a1=5").then(x -> x.withdraw('a', 1, 5)), "n",
                    BatchBoundaries::outcomes);
        });
        test(4, sentence, () -> {
            answers("new once", reported("a1=5 a1=5"), 1, RecordReconciler::closeBatch);
            answers("new once, then corrected", reported("a1=5 a1=6 a1=5"), 1, RecordReconciler::closeBatch);
            answers("new twice", reported("a1=5 b1=5 a1=5"), 2, RecordReconciler::closeBatch);
            answers("totals", counted("a1=5 a1=5 a1=6 a1=6 a1=6"), "1 1 3",
                    x -> x.newTotal() + " " + x.correctionTotal() + " " + x.duplicateTotal());
        });
    }

    private static void thirtyRecords() {
        test(4, "At most 30 counted records exist.", () -> {
            answers("29", counted(Views.row('a', 0, 1, 28, 10)).then(reported("b0=1")), "1 29",
                    x -> x.closeBatch() + " " + x.recordCount());
            answers("30", ROOM_FOR_ONE.then(reported("b0=1")), "1 30", x -> x.closeBatch() + " " + x.recordCount());
            refused("31", NO_ROOM.then(reported("b0=1")), STATE, RecordReconciler::closeBatch);
            refused("31 of three sources", FULL.then(reported("c999=99")), STATE, RecordReconciler::closeBatch);
            answers("18 and 12", counted(Views.row('a', 0, 1, 18, 10)).then(reports(12)), "12 30",
                    x -> x.closeBatch() + " " + x.recordCount());
            refused("19 and 12", counted(Views.row('a', 0, 1, 19, 10)).then(reports(12)), STATE,
                    RecordReconciler::closeBatch);
            answers("30 again after a drop", NO_ROOM.then(x -> x.drop('a', 0)).then(reported("b0=1")), "1 30",
                    x -> x.closeBatch() + " " + x.recordCount());
        });
        test(4, FAILS_AS_A_WHOLE, () -> {
            Scene others = reported("a0=11 a1=10");
            answers("without a new record", NO_ROOM.then(others), 0, RecordReconciler::closeBatch);
            refused("a new one at the end", NO_ROOM.then(others).then(reported("b0=1")), STATE,
                    RecordReconciler::closeBatch);
            refused("a new one at the beginning", NO_ROOM.then(reported("b0=1")).then(others), STATE,
                    RecordReconciler::closeBatch);
            refused("the only one", NO_ROOM.then(reported("a30=10")), STATE, RecordReconciler::closeBatch);
            answers("one for the last place", ROOM_FOR_ONE.then(others).then(reported("b0=1")), 1,
                    RecordReconciler::closeBatch);
            answers("one for the last place, twice", ROOM_FOR_ONE.then(reported("b0=1 b0=1 b0=2")), 1,
                    RecordReconciler::closeBatch);
            refused("two for the last place", ROOM_FOR_ONE.then(reported("b0=1 b1=1")).then(others), STATE,
                    RecordReconciler::closeBatch);
            refused("twelve for eleven places", counted(Views.row('b', 0, 1, 19, 10)).then(reports(12)), STATE,
                    RecordReconciler::closeBatch);
        });
    }

    private static void closeBatch() {
        test(4, "A batch is closed or rejected as a whole.", () -> {
            answers("none", EMPTY, "0 0", x -> x.closeBatch() + " " + x.reportCount());
            answers("one", reports(1), "1 0", x -> x.closeBatch() + " " + x.reportCount());
            answers("twelve", reports(12), "12 0", x -> x.closeBatch() + " " + x.reportCount());
            answers("the first and the last are counted", reports(12).then(RecordReconciler::closeBatch), true,
                    x -> x.hasRecord('c', 988) && x.hasRecord('a', 999));
        });
        plain(4, "Closes the open batch.");
        test(4, "Returns the number of records that are new.", () -> {
            answers("empty batch", EMPTY, 0, RecordReconciler::closeBatch);
            answers("no new one", counted("a1=5 b1=5").then(reported("a1=5 b1=6")), 0, RecordReconciler::closeBatch);
            answers("one of three", counted("a1=5 b1=5").then(reported("a1=5 b1=6 c1=7")), 1,
                    RecordReconciler::closeBatch);
            answers("eleven of twelve", counted("a999=88").then(reports(12)), 11, RecordReconciler::closeBatch);
            answers("all of twelve", reports(12), 12, RecordReconciler::closeBatch);
        });
        test(4, "Throws `IllegalStateException` if the closing fails", () -> {
            neverThrows("30 records, empty batch", NO_ROOM, STATE, RecordReconciler::closeBatch);
            neverThrows("29 records, a new one", ROOM_FOR_ONE.then(reported("c5=5")), STATE, RecordReconciler::closeBatch);
            Scene failing = NO_ROOM.then(reported("a0=11 a1=10 c5=5"));
            refused("30 records, a new one", failing, STATE, RecordReconciler::closeBatch);
            refused("and again", failing.then(x -> Checks.outcome(x::closeBatch)), STATE, RecordReconciler::closeBatch);
            answers("not once it is withdrawn", failing.then(x -> x.withdraw('c', 5, 5)), 0, RecordReconciler::closeBatch);
            answers("not once there is room", failing.then(x -> x.drop('a', 29)), 1, RecordReconciler::closeBatch);
            refused("not if the room is wanted for the dropped one", failing.then(x -> x.drop('a', 0)), STATE,
                    RecordReconciler::closeBatch);
        });
    }

    private static void rejectBatch() {
        plain(5, "Rejects the open batch.");
        test(5, "A batch is closed or rejected as a whole.", () -> {
            answers("none", EMPTY, "0 0", x -> x.rejectBatch() + " " + x.reportCount());
            answers("one", reports(1), "1 0", x -> x.rejectBatch() + " " + x.reportCount());
            answers("twelve", reports(12), "12 0", x -> x.rejectBatch() + " " + x.reportCount());
        });
        test(5, "When the open batch is rejected, its reports are forgotten.", () -> {
            answers("no record", reports(12).then(RecordReconciler::rejectBatch), 0, RecordReconciler::recordCount);
            answers("no correction", counted("a1=5").then(reported("a1=6")).then(RecordReconciler::rejectBatch), "5 0 0",
                    x -> x.amountOf('a', 1) + " " + x.dayOf('a', 1) + " " + x.correctionTotal());
            answers("no duplicate", counted("a1=5").then(reported("a1=5")).then(RecordReconciler::rejectBatch), 0,
                    RecordReconciler::duplicateTotal);
            answers("nor later", reports(12).then(RecordReconciler::rejectBatch), "0 0",
                    x -> x.closeBatch() + " " + x.recordCount());
            answers("a batch that can't be closed", FULL.then(reports(12)), 12, RecordReconciler::rejectBatch);
        });
        test(5, "Returns the number of reports that are forgotten.", () -> {
            for (int number : new int[] {0, 1, 11, 12}) {
                answers("" + number, reports(number), number, RecordReconciler::rejectBatch);
            }
            answers("less one", reports(12).then(x -> x.withdraw('c', 988, 99)), 11, RecordReconciler::rejectBatch);
            answers("all alike", repeated(12, reported("a0=1")), 12, RecordReconciler::rejectBatch);
            answers("of the next batch", reports(12).then(RecordReconciler::rejectBatch), 0,
                    RecordReconciler::rejectBatch);
        });
    }

    private static void nextDay() {
        test(4, NEXT_DAY, () -> {
            for (int number : new int[] {0, 1, 12}) {
                answers("closed with " + number, reports(number).then(RecordReconciler::closeBatch), "1 0",
                        x -> x.day() + " " + x.reportCount());
            }
            answers("the closed ones have the day before", counted("a1=5"), "0 1", x -> x.dayOf('a', 1) + " " + x.day());
            answers("a closing that fails takes no day", NO_ROOM.then(reported("b0=1"))
                    .then(x -> Checks.outcome(x::closeBatch)), "3 1", x -> x.day() + " " + x.reportCount());
        });
        test(5, NEXT_DAY, () -> {
            for (int number : new int[] {0, 1, 12}) {
                answers("rejected with " + number, reports(number).then(RecordReconciler::rejectBatch), "1 0",
                        x -> x.day() + " " + x.reportCount());
            }
            answers("twice", repeated(2, RecordReconciler::rejectBatch), 2, RecordReconciler::day);
        });
    }

    private static void settle() {
        plain(6, "Settles the dispute about a key for a source.");
        test(6, "Returns the number of records whose amounts change.", () -> {
            answers("one of two", counted("a17=40 b17=41"), 1, x -> x.settle('a', 17));
            answers("one of three", counted("a17=40 b17=41 c17=40"), 1, x -> x.settle('a', 17));
            answers("two of three, which agree", counted("a17=40 b17=41 c17=40"), 2, x -> x.settle('b', 17));
            answers("two of three", counted("a17=40 b17=41 c17=42"), 2, x -> x.settle('c', 17));
            answers("not those of other keys", counted("a17=40 b17=41 a16=40 b16=41 a18=1 b18=99"), 1,
                    x -> x.settle('a', 17));
            answers("ends of the amounts", counted("a17=1 b17=99 c17=98"), 2, x -> x.settle('b', 17));
        });
        noRecord(6, RecordReconciler::settle);
        test(6, "Throws `IllegalStateException` if the key is not disputed", () -> {
            refused("one record", counted("a17=40 b16=1 c18=2"), STATE, x -> x.settle('a', 17));
            refused("two that agree", counted("a17=40 b17=40"), STATE, x -> x.settle('b', 17));
            answers("two that differ by 1", counted("a17=40 b17=41"), 1, x -> x.settle('b', 17));
            refused("three that agree", counted("a17=40 b17=40 c17=40"), STATE, x -> x.settle('c', 17));
            answers("three, the last differs by 1", counted("a17=40 b17=40 c17=39"), 1, x -> x.settle('a', 17));
            refused("settled", counted("a17=40 b17=41").then(x -> x.settle('b', 17)), STATE, x -> x.settle('a', 17));
            refused("the other ones dropped", counted("a17=40 b17=41 c17=42").then(x -> x.drop('b', 17))
                    .then(x -> x.drop('c', 17)), STATE, x -> x.settle('a', 17));
            answers("one of them dropped", counted("a17=40 b17=41 c17=42").then(x -> x.drop('b', 17)), 1,
                    x -> x.settle('a', 17));
            refused("disputed in the open batch alone", counted("a17=40 b17=40").then(reported("b17=41")), STATE,
                    x -> x.settle('a', 17));
        });
    }

    private static void drop() {
        test(7, "Removes a counted record.", () -> {
            answers("it alone", counted("a17=40 b17=40 a18=40").then(x -> x.drop('a', 17)), "false true true",
                    x -> x.hasRecord('a', 17) + " " + x.hasRecord('b', 17) + " " + x.hasRecord('a', 18));
            answers("the last one of its key", counted("a17=40 b18=41").then(x -> x.drop('a', 17)), "18 0",
                    x -> x.keyAt('b', 0) + " " + x.recordsOf('a'));
            answers("the first of thirty", NO_ROOM.then(x -> x.drop('a', 0)), "1 29",
                    x -> x.keyAt('a', 0) + " " + x.keyAt('a', 28));
            answers("the last of thirty", NO_ROOM.then(x -> x.drop('a', 29)), "0 28",
                    x -> x.keyAt('a', 0) + " " + x.keyAt('a', 28));
            answers("not the report in the open batch", counted("a17=40").then(reported("a17=41"))
                    .then(x -> x.drop('a', 17)), "1 n", x -> x.reportCount() + " " + x.outcomeOf(0));
        });
        test(7, "Returns the number of counted records afterwards.", () -> {
            answers("of one", counted("a17=40"), 0, x -> x.drop('a', 17));
            answers("of two", counted("a17=40 b17=40"), 1, x -> x.drop('b', 17));
            answers("of thirty", FULL, 29, x -> x.drop('c', 270));
            answers("without those in the open batch", counted("a17=40").then(reported("b17=40")), 0,
                    x -> x.drop('a', 17));
        });
        noRecord(7, RecordReconciler::drop);
    }

    private static void pass() {
        plain(8, "Lets days pass.");
        test(8, "`days`: the number of days, 1 to 99", () -> {
            for (int days : new int[] {1, 2, 98, 99}) {
                answers("" + days, EMPTY, days, x -> x.pass(days));
            }
            for (int days : new int[] {0, 100}) {
                refused("" + days, EMPTY, ARGUMENT, x -> x.pass(days));
            }
        });
        test(8, "Returns the present day afterwards.", () -> {
            answers("from day 0", EMPTY, 1, x -> x.pass(1));
            answers("from day 99", x -> x.pass(99), 100, x -> x.pass(1));
            answers("by most", x -> x.pass(99), 198, x -> x.pass(99));
            answers("after a closing", RecordReconciler::closeBatch, 2, x -> x.pass(1));
        });
        test(8, "Throws `IllegalArgumentException` if the number of days is out of range", () -> {
            for (int days : new int[] {0, 100, -1, 257, -99, Integer.MIN_VALUE, Integer.MAX_VALUE}) {
                refused("" + days, FULL.then(reports(3)), ARGUMENT, x -> x.pass(days));
            }
            for (int days : new int[] {1, 99}) {
                neverThrows("" + days, FULL.then(reports(3)), ARGUMENT, x -> x.pass(days));
            }
        });
    }

    private static void day() {
        test(9, "The latest day is the present day; it starts at 0.", () -> {
            answers("at first", EMPTY, 0, RecordReconciler::day);
            answers("then 1", x -> x.pass(1), 1, RecordReconciler::day);
            answers("then the latest", repeated(3, x -> x.pass(2)), 6, RecordReconciler::day);
            answers("records of the first day", counted("a0=1"), 0, x -> x.dayOf('a', 0));
            answers("records of the second day", counted("b0=1", "a0=1"), 1, x -> x.dayOf('a', 0));
        });
        test(9, "Returns the present day.", () -> {
            answers("a close", RecordReconciler::closeBatch, 1, RecordReconciler::day);
            answers("a reject", RecordReconciler::rejectBatch, 1, RecordReconciler::day);
            answers("a report, a drop, a settling", counted("a1=1 b1=2 c5=5").then(reported("a2=2"))
                    .then(x -> x.settle('a', 1)).then(x -> x.drop('c', 5)), 1, RecordReconciler::day);
            answers("a day taken back", repeated(2, x -> x.pass(1)).then(RecordReconciler::undo), 1,
                    RecordReconciler::day);
        });
        plain(9, "Returns the day.");
    }

    private static void reports() {
        test(10, "Returns the number of reports in the open batch.", () -> {
            for (int number : new int[] {0, 1, 11, 12}) {
                answers("" + number, reports(number), number, RecordReconciler::reportCount);
            }
            answers("a 13th is not in it", reports(12).then(x -> Checks.outcome(() -> x.report('a', 0, 1))), 12,
                    RecordReconciler::reportCount);
            answers("one withdrawn", reports(12).then(x -> x.withdraw('c', 988, 99)), 11, RecordReconciler::reportCount);
            answers("closed", reports(12).then(RecordReconciler::closeBatch), 0, RecordReconciler::reportCount);
            answers("rejected", reports(12).then(RecordReconciler::rejectBatch), 0, RecordReconciler::reportCount);
        });
        plain(10, "Returns the number.");
        atPosition(11, RecordReconciler::reportSource, 'c', 'b', 'b', 'a');
        atPosition(12, RecordReconciler::reportKey, 988, 989, 998, 999);
        atPosition(13, RecordReconciler::reportAmount, 99, 98, 89, 88);
        atPosition(14, RecordReconciler::outcomeOf, 'c', 'n', 'n', 'd');
        plain(11, "Returns the source of a report in the open batch.", "Returns the source.");
        plain(12, "Returns the key of a report in the open batch.", "Returns the key.");
        plain(13, "Returns the amount of a report in the open batch.", "Returns the amount.");
    }

    /** The answers at 0, 1, 10 and 11 in a batch of twelve. */
    private static void atPosition(int promise, OfNumber call, Object... due) {
        Scene counted = counted("c988=1 a999=88");
        test(promise, POSITION, () -> {
            for (int i = 0; i < 4; i++) {
                int position = new int[] {0, 1, 10, 11}[i];
                answers("" + position, counted.then(reports(12)), due[i], x -> call.ask(x, position));
            }
            refused("-1", counted.then(reports(12)), INDEX, x -> call.ask(x, -1));
            refused("12", counted.then(reports(12)), INDEX, x -> call.ask(x, 12));
        });
        test(promise, NO_REPORT, () -> {
            for (int number : new int[] {0, 1, 2, 11, 12}) {
                Scene scene = counted.then(reports(number));
                positions(scene, number, INDEX, call);
            }
            refused("withdrawn", reports(12).then(x -> x.withdraw('c', 988, 99)), INDEX, x -> call.ask(x, 11));
            refused("closed", reports(12).then(RecordReconciler::closeBatch), INDEX, x -> call.ask(x, 0));
            refused("rejected", reports(12).then(RecordReconciler::rejectBatch), INDEX, x -> call.ask(x, 0));
        });
    }

    private static void outcomeOf() {
        test(14, "Returns what a report in the open batch would be if the batch was closed now, whether this fails or not.",
                () -> {
            answers("29 records, two new ones", ROOM_FOR_ONE.then(reported("b0=1 b1=1 b1=1 b0=2 a0=10")), "nndcd",
                    BatchBoundaries::outcomes);
            answers("30 records, two new ones", NO_ROOM.then(reported("b0=1 b1=1 b1=1 b0=2 a0=10 a0=11")), "nndcdc",
                    BatchBoundaries::outcomes);
            answers("30 records, none new", NO_ROOM.then(reported("a0=10 a0=11 a0=11 a0=10")), "dcdc",
                    BatchBoundaries::outcomes);
            answers("30 records, twelve new ones", NO_ROOM.then(reports(12)), "nnnnnnnnnnnn", BatchBoundaries::outcomes);
            unchanged("asking", NO_ROOM.then(reported("b0=1 a0=11")), BatchBoundaries::outcomes);
            answers("now: before a drop", counted("a1=5").then(reported("a1=5")), "d", BatchBoundaries::outcomes);
            answers("now: after it", counted("a1=5").then(reported("a1=5")).then(x -> x.drop('a', 1)), "n",
                    BatchBoundaries::outcomes);
            answers("now: after a settling", counted("a1=5 b1=6").then(reported("a1=5 b1=6")).then(x -> x.settle('b', 1)),
                    "cd", BatchBoundaries::outcomes);
        });
        test(14, "Returns 'n' for a new record, 'c' for a correction, 'd' for a duplicate.", () -> {
            answers("all three", counted("a1=5 b1=5").then(reported("a1=5 b1=6 c1=5")), "dcn", BatchBoundaries::outcomes);
            answers("as closing does", counted("a1=5 b1=5").then(reported("a1=5 b1=6 c1=5"))
                    .then(RecordReconciler::closeBatch), "1 1 3",
                    x -> x.duplicateTotal() + " " + x.correctionTotal() + " " + x.newTotal());
        });
    }

    private static void canClose() {
        test(15, "Returns whether closeBatch would return normally now.", () -> {
            Scene[] can = {EMPTY, reports(12), NO_ROOM, FULL, ROOM_FOR_ONE.then(reported("b0=1")),
                ROOM_FOR_ONE.then(reported("b0=1 b0=2 b0=2")), NO_ROOM.then(reported("a0=10 a0=11")),
                counted(Views.row('b', 0, 1, 18, 10)).then(reports(12))};
            for (int i = 0; i < can.length; i++) {
                answers("can " + i, can[i], true, RecordReconciler::canClose);
                neverThrows("can " + i, can[i], STATE, RecordReconciler::closeBatch);
                unchanged("asking " + i, busy(can[i]), RecordReconciler::canClose);
            }
            Scene[] cannot = {NO_ROOM.then(reported("b0=1")), FULL.then(reported("a0=10 a999=1")),
                ROOM_FOR_ONE.then(reported("b0=1 b1=1")), counted(Views.row('b', 0, 1, 19, 10)).then(reports(12))};
            for (int i = 0; i < cannot.length; i++) {
                answers("cannot " + i, cannot[i], false, RecordReconciler::canClose);
                refused("cannot " + i, cannot[i], STATE, RecordReconciler::closeBatch);
                unchanged("asking in vain " + i, busy(cannot[i]), RecordReconciler::canClose);
            }
        });
        plain(15, "Returns true if it would.");
    }
}
