/** Promises 39 to 50, and the terms' sentences about trust. */
final class TotalsBoundaries extends Boundary {
    private TotalsBoundaries() {
    }

    static void go() {
        trust();
        settling();
        mostTrusted();
        ofReports();
        ofBatches();
        droppedAndSettled();
        mean();
        share();
        eachByItself();
        consistent();
        plain(0, "Trust.");
        plain(40, "Returns the source.");
        for (int promise = 41; promise <= 47; promise++) {
            plain(promise, "Returns the number.");
        }
    }

    /** So many disputes of two sources, about the keys from first, each settled for the winner. */
    private static Scene settled(char winner, char loser, int first, int times) {
        return x -> {
            for (int key = first; key < first + times; key++) {
                Views.count(x, "" + winner + key + "=1 " + loser + key + "=2");
                x.settle(winner, key);
            }
        };
    }

    private static String trust(RecordReconciler x) {
        return "" + x.trustOf('a') + x.trustOf('b') + x.trustOf('c');
    }

    private static void trust() {
        test(39, "Each source has a trust from 0 to 9, initially 5.", () -> {
            answers("initially", EMPTY, "555", TotalsBoundaries::trust);
            for (int times = 1; times <= 7; times++) {
                int up = Math.min(9, 5 + times);
                int down = Math.max(0, 5 - times);
                answers("a over b", settled('a', 'b', 0, times), "" + up + down + "5", TotalsBoundaries::trust);
                answers("b over c", settled('b', 'c', 0, times), "5" + up + down, TotalsBoundaries::trust);
                answers("c over a", settled('c', 'a', 0, times), "" + down + "5" + up, TotalsBoundaries::trust);
            }
        });
        test(39, "Returns the trust of a source.", () -> {
            answers("down from 9", settled('a', 'b', 0, 5).then(settled('c', 'a', 10, 1)), "806", TotalsBoundaries::trust);
            answers("up from 0", settled('a', 'b', 0, 6).then(settled('b', 'c', 10, 1)), "914", TotalsBoundaries::trust);
            answers("a dispute that is not settled", counted("a1=1 b1=2"), "555", TotalsBoundaries::trust);
            answers("taken back", settled('a', 'b', 0, 1).then(RecordReconciler::undo), "555", TotalsBoundaries::trust);
            answers("taken back from 9", settled('a', 'b', 0, 5).then(RecordReconciler::undo), "915",
                    TotalsBoundaries::trust);
            answers("taken back from 8", settled('a', 'b', 0, 4).then(RecordReconciler::undo), "825",
                    TotalsBoundaries::trust);
        });
        test(39, "Returns the trust, 0 to 9.", () -> {
            answers("4 times", settled('a', 'b', 0, 4), "915", TotalsBoundaries::trust);
            answers("5 times", settled('a', 'b', 0, 5), "905", TotalsBoundaries::trust);
            answers("6 times", settled('a', 'b', 0, 6), "905", TotalsBoundaries::trust);
            answers("15 times", settled('a', 'b', 0, 15), "905", TotalsBoundaries::trust);
        });
    }

    private static void settling() {
        test(6, "When a dispute is settled for a source, all counted records with the key get the amount of this source's "
                + "record, the trust of this source increases by 1, but not above 9, and the trust of each other source "
                + "whose record had another amount decreases by 1, but not below 0.", () -> {
            settledKey("a17=40 b17=41", 'a', "40 40 - 645");
            settledKey("a17=40 b17=41", 'b', "41 41 - 465");
            settledKey("a17=40 b17=41 c17=40", 'a', "40 40 40 645");
            settledKey("a17=40 b17=41 c17=40", 'b', "41 41 41 464");
            settledKey("a17=40 b17=41 c17=40", 'c', "40 40 40 546");
            settledKey("a17=40 b17=41 c17=39", 'c', "39 39 39 446");
            settledKey("b17=1 c17=99", 'b', "- 1 1 564");
            settledKey("b17=1 c17=99", 'c', "- 99 99 546");
            settledKey("a17=1 b17=1 c17=2", 'c', "2 2 2 446");
            settledKey("a17=99 c17=98 a16=1 b16=2 b18=3 c18=4", 'c', "98 - 98 456");
            Scene key = counted("a17=40 b17=41 c17=42");
            answers("at 9 and 0", settled('a', 'b', 0, 5).then(key).then(x -> x.settle('a', 17)), "904",
                    TotalsBoundaries::trust);
            answers("at 8 and 1", settled('a', 'b', 0, 3).then(settled('c', 'b', 10, 1)).then(key)
                    .then(x -> x.settle('a', 17)), "905", TotalsBoundaries::trust);
            answers("0 stays where 9 falls", settled('a', 'b', 0, 5).then(key).then(x -> x.settle('c', 17)), "806",
                    TotalsBoundaries::trust);
            answers("9 falls where 0 rises", settled('a', 'b', 0, 5).then(key).then(x -> x.settle('b', 17)), "814",
                    TotalsBoundaries::trust);
        });
    }

    private static void settledKey(String records, char source, String due) {
        answers(records + " for " + source, counted(records).then(x -> x.settle(source, 17)), due, x -> {
            StringBuilder amounts = new StringBuilder();
            for (char other : SOURCES) {
                amounts.append(x.hasRecord(other, 17) ? x.amountOf(other, 17) : "-").append(' ');
            }
            return amounts + trust(x);
        });
    }

    private static void mostTrusted() {
        test(40, "Returns the source with the highest trust.", () -> {
            answers("a by 1", settled('a', 'c', 0, 1), 'a', RecordReconciler::mostTrusted);
            answers("b by 1", settled('b', 'c', 0, 1), 'b', RecordReconciler::mostTrusted);
            answers("c by 1", settled('c', 'b', 0, 1), 'c', RecordReconciler::mostTrusted);
            answers("c by 1, above 9 and 0", settled('a', 'b', 0, 5).then(settled('c', 'a', 10, 2)), "707 a",
                    x -> trust(x) + " " + x.mostTrusted());
            answers("and one more", settled('a', 'b', 0, 5).then(settled('c', 'a', 10, 3)), "608 c",
                    x -> trust(x) + " " + x.mostTrusted());
        });
        test(40, "Of several such sources it is the first one in the order of letters.", () -> {
            answers("all", EMPTY, 'a', RecordReconciler::mostTrusted);
            answers("b and c", settled('b', 'a', 0, 1).then(settled('c', 'a', 10, 1)), "366 b",
                    x -> trust(x) + " " + x.mostTrusted());
            answers("c before b in time", settled('c', 'a', 0, 1).then(settled('b', 'a', 10, 1)), "366 b",
                    x -> trust(x) + " " + x.mostTrusted());
            answers("a and c", settled('a', 'b', 0, 1).then(settled('c', 'b', 10, 1)), "636 a",
                    x -> trust(x) + " " + x.mostTrusted());
            answers("a and b", settled('a', 'c', 0, 1).then(settled('b', 'c', 10, 1)), "663 a",
                    x -> trust(x) + " " + x.mostTrusted());
            answers("all at 9, but for one", settled('b', 'a', 0, 4).then(settled('c', 'a', 10, 4)), "099 b",
                    x -> trust(x) + " " + x.mostTrusted());
        });
    }

    private static void ofReports() {
        Scene failing = FULL.then(reported("a0=10 a30=11 b999=1")).then(x -> Checks.outcome(x::closeBatch));
        test(41, "Returns the number of duplicates in all closed batches so far.", () -> {
            Question call = RecordReconciler::duplicateTotal;
            answers("none", EMPTY, 0, call);
            answers("in the open batch", reported("a1=1 a1=1"), 0, call);
            answers("in a rejected batch", reported("a1=1 a1=1").then(RecordReconciler::rejectBatch), 0, call);
            answers("in a batch that can't be closed", failing, 0, call);
            answers("one", counted("a1=1 a1=1"), 1, call);
            answers("two, in two batches", counted("a1=1 a1=1", "a1=1"), 2, call);
            answers("eleven of twelve", counted(Views.row('a', 1, 0, 12, 1)), 11, call);
            answers("twelve of twelve", counted("a1=1", Views.row('a', 1, 0, 12, 1)), 12, call);
            answers("taken back", counted("a1=1", "a1=1").then(RecordReconciler::undo), 0, call);
        });
        test(42, "Returns the number of corrections in all closed batches so far.", () -> {
            Question call = RecordReconciler::correctionTotal;
            answers("none", EMPTY, 0, call);
            answers("in the open batch", reported("a1=1 a1=2"), 0, call);
            answers("in a rejected batch", reported("a1=1 a1=2").then(RecordReconciler::rejectBatch), 0, call);
            answers("in a batch that can't be closed", failing, 0, call);
            answers("one", counted("a1=1 a1=2"), 1, call);
            answers("two, in two batches", counted("a1=1 a1=2", "a1=1"), 2, call);
            answers("twelve of twelve", counted("a1=1", "a1=2 a1=1 a1=2 a1=1 a1=2 a1=1 a1=2 a1=1 a1=2 a1=1 a1=2 a1=1"), 12,
                    call);
            answers("a settling is none", counted("a1=1 b1=2").then(x -> x.settle('a', 1)), 0, call);
            answers("taken back", counted("a1=1", "a1=2").then(RecordReconciler::undo), 0, call);
        });
        test(43, "Returns the number of new records in all closed batches so far.", () -> {
            Question call = RecordReconciler::newTotal;
            answers("none", EMPTY, 0, call);
            answers("in the open batch", reported("a1=1"), 0, call);
            answers("in a rejected batch", reported("a1=1").then(RecordReconciler::rejectBatch), 0, call);
            answers("in a batch that can't be closed", failing, 30, call);
            answers("one", counted("a1=1 a1=1 a1=2"), 1, call);
            answers("two, in two batches", counted("a1=1", "b1=1"), 2, call);
            answers("twelve of twelve", counted(Views.row('a', 1, 1, 12, 1)), 12, call);
            answers("a drop takes none away", counted("a1=1").then(x -> x.drop('a', 1)), 1, call);
            answers("new again after a drop", counted("a1=1").then(x -> x.drop('a', 1)).then(counted("a1=1")), 2, call);
            answers("above 30", FULL.then(x -> x.drop('a', 0)).then(counted("a0=1")), 31, call);
            answers("taken back", counted("a1=1", "b1=1").then(RecordReconciler::undo), 1, call);
        });
    }

    private static void ofBatches() {
        test(45, "Returns the number of batches that have been closed so far.", () -> {
            Question call = RecordReconciler::closedTotal;
            answers("none", EMPTY, 0, call);
            answers("an empty one", RecordReconciler::closeBatch, 1, call);
            answers("two", counted("a1=1", "a1=1"), 2, call);
            answers("a rejected one", reported("a1=1").then(RecordReconciler::rejectBatch), 0, call);
            answers("one that can't be closed", FULL.then(reported("b999=1")).then(x -> Checks.outcome(x::closeBatch)), 3,
                    call);
            answers("taken back", RecordReconciler::closeBatch, 0, x -> {
                x.undo();
                return call.ask(x);
            });
        });
        test(46, "Returns the number of batches that have been rejected so far.", () -> {
            Question call = RecordReconciler::rejectedTotal;
            answers("none", EMPTY, 0, call);
            answers("an empty one", RecordReconciler::rejectBatch, 1, call);
            answers("two", repeated(2, reported("a1=1").then(RecordReconciler::rejectBatch)), 2, call);
            answers("a closed one", counted("a1=1"), 0, call);
            answers("one that can't be closed", FULL.then(reported("b999=1")).then(x -> Checks.outcome(x::closeBatch)), 0,
                    call);
            answers("taken back", repeated(2, RecordReconciler::rejectBatch).then(RecordReconciler::undo), 1, call);
        });
    }

    private static void droppedAndSettled() {
        test(44, "Returns the number of counted records that have been removed so far.", () -> {
            Question call = RecordReconciler::droppedTotal;
            answers("none", counted("a1=1 b1=1"), 0, call);
            answers("one", counted("a1=1 b1=1").then(x -> x.drop('a', 1)), 1, call);
            answers("both", counted("a1=1 b1=1").then(x -> x.drop('a', 1)).then(x -> x.drop('b', 1)), 2, call);
            answers("one that is not there", counted("a1=1").then(x -> Checks.outcome(() -> x.drop('b', 1))), 0, call);
            answers("a report withdrawn", reported("a1=1").then(x -> x.withdraw('a', 1, 1)), 0, call);
            answers("a report rejected", reported("a1=1").then(RecordReconciler::rejectBatch), 0, call);
            answers("taken back", counted("a1=1").then(x -> x.drop('a', 1)).then(RecordReconciler::undo), 0, call);
        });
        test(47, "Returns the number of disputes that have been settled so far.", () -> {
            Question call = RecordReconciler::settledTotal;
            Scene disputes = counted("a1=1 b1=2 c1=3 a2=1 b2=2 a3=1 b3=1");
            answers("none", disputes, 0, call);
            answers("one, about three records", disputes.then(x -> x.settle('a', 1)), 1, call);
            answers("two", disputes.then(x -> x.settle('a', 1)).then(x -> x.settle('b', 2)), 2, call);
            answers("one that is none", disputes.then(x -> Checks.outcome(() -> x.settle('a', 3))), 0, call);
            answers("by a correction", disputes.then(counted("b2=1")), 0, call);
            answers("at the ends of trust", settled('a', 'b', 0, 7), 7, call);
            answers("taken back", disputes.then(x -> x.settle('a', 1)).then(RecordReconciler::undo), 0, call);
        });
    }

    private static String totals(RecordReconciler x) {
        return "" + x.duplicateTotal() + x.correctionTotal() + x.newTotal() + x.droppedTotal() + x.closedTotal()
                + x.rejectedTotal() + x.settledTotal();
    }

    /** From 0 to 1 and then to 2 each total goes without the other ones, but for the closed batches. */
    private static void eachByItself() {
        Scene scene = counted("a1=1 b1=2 a2=1 b2=2");
        String[] sentences = {"Returns the number of duplicates in all closed batches so far.",
            "Returns the number of corrections in all closed batches so far.",
            "Returns the number of new records in all closed batches so far.",
            "Returns the number of counted records that have been removed so far.",
            "Returns the number of batches that have been closed so far.",
            "Returns the number of batches that have been rejected so far.",
            "Returns the number of disputes that have been settled so far."};
        Scene[] once = {counted("a1=1"), counted("b2=9"), counted("c3=1"), x -> x.drop('a', 1), RecordReconciler::closeBatch,
            RecordReconciler::rejectBatch, x -> x.settle('a', 1)};
        Scene[] again = {counted("b2=2"), counted("a1=9"), counted("c4=1"), x -> x.drop('b', 2), RecordReconciler::closeBatch,
            RecordReconciler::rejectBatch, x -> x.settle('b', 2)};
        String[] due = {"1040200 2040300", "0140200 0240300", "0050200 0060300", "0041100 0042100", "0040200 0040300",
            "0040110 0040120", "0040101 0040102"};
        for (int i = 0; i < 7; i++) {
            Scene first = scene.then(once[i]);
            Scene second = first.then(again[i]);
            String both = due[i];
            test(41 + i, sentences[i], () -> {
                answers("no other total with the first", first, both.substring(0, 7), TotalsBoundaries::totals);
                answers("no other total with the second", second, both.substring(8), TotalsBoundaries::totals);
            });
        }
    }

    private static void mean() {
        test(48, "Returns the mean amount of the counted records: the sum, converted to double, divided by their number.",
                () -> {
            answers("least", counted("a0=1"), 1.0, RecordReconciler::meanAmount);
            answers("most", counted(Views.row('a', 0, 1, 30, 99)), 99.0, RecordReconciler::meanAmount);
            answers("halves", counted("a0=1 b0=2"), 1.5, RecordReconciler::meanAmount);
            answers("thirds", counted("a0=1 b0=1 c0=2"), 4.0 / 3.0, RecordReconciler::meanAmount);
            answers("sevenths", counted("a0=1 b0=1 c0=2 a1=5 b1=7 c2=11 a3=3"), 30.0 / 7.0, RecordReconciler::meanAmount);
            answers("all but one of thirty", counted(Views.row('a', 0, 1, 29, 99), "b0=1"), 2872.0 / 30.0,
                    RecordReconciler::meanAmount);
            for (int number = 1; number <= 30; number++) {
                answers("of " + number, counted(Views.row('b', 0, 1, number, 1), "b0=99"), (double) (98 + number) / number,
                        RecordReconciler::meanAmount);
            }
            answers("records, not keys", counted("a0=9 b0=9 c1=3"), 7.0, RecordReconciler::meanAmount);
        });
        plain(48, "Returns the mean.");
        noRecords(48, RecordReconciler::meanAmount);
    }

    private static void noRecords(int promise, Question call) {
        test(promise, "Throws `ArithmeticException` if there are no counted records", () -> {
            refused("none", EMPTY, ARITHMETIC, call);
            refused("none but reports", reported("a0=1"), ARITHMETIC, call);
            neverThrows("one", counted("a0=1"), ARITHMETIC, call);
            refused("none any more", counted("a0=1").then(x -> x.drop('a', 0)), ARITHMETIC, call);
            refused("taken back", counted("a0=1").then(RecordReconciler::undo), ARITHMETIC, call);
            neverThrows("the drop taken back", counted("a0=1").then(x -> x.drop('a', 0)).then(RecordReconciler::undo),
                    ARITHMETIC, call);
        });
    }

    private static void share() {
        test(49, "Returns the number of confirmed keys, converted to float, divided by the number of keys with counted "
                + "records.", () -> {
            answers("none of one", counted("a0=1"), 0.0f, RecordReconciler::confirmedShare);
            answers("none of thirty", counted(Views.row('a', 0, 1, 30, 99)), 0.0f, RecordReconciler::confirmedShare);
            answers("a disputed one", counted("a0=1 b0=2"), 0.0f, RecordReconciler::confirmedShare);
            answers("one of one", counted("a0=1 b0=1"), 1.0f, RecordReconciler::confirmedShare);
            answers("one of one, by three", counted("a0=1 b0=1 c0=1"), 1.0f, RecordReconciler::confirmedShare);
            answers("one of three", counted("a0=1 b0=1 c1=1 a2=1 b2=3"), 1.0f / 3.0f, RecordReconciler::confirmedShare);
            answers("two of three", counted("a0=1 b0=1 c1=1 a2=1 c2=1"), 2.0f / 3.0f, RecordReconciler::confirmedShare);
            answers("one of 29", counted(Views.row('a', 0, 1, 29, 99), "b0=99"), 1.0f / 29.0f,
                    RecordReconciler::confirmedShare);
            answers("fifteen of fifteen", counted(Views.row('a', 0, 1, 15, 99), Views.row('b', 0, 1, 15, 99)), 1.0f,
                    RecordReconciler::confirmedShare);
            for (int keys = 1; keys < 30; keys++) {
                for (int confirmed = 1; confirmed <= keys && confirmed + keys <= 30; confirmed++) {
                    answers(confirmed + " of " + keys, counted(Views.row('a', 0, 1, keys, 99),
                            Views.row('b', 0, 1, confirmed, 99)), (float) confirmed / keys, RecordReconciler::confirmedShare);
                }
            }
            answers("fourteen of fifteen", counted(Views.row('a', 0, 1, 15, 99), Views.row('b', 0, 1, 14, 99)),
                    14.0f / 15.0f, RecordReconciler::confirmedShare);
        });
        plain(49, "Returns the share.");
        noRecords(49, RecordReconciler::confirmedShare);
    }

    private static void consistent() {
        test(50, "Checks the service: matchingSize and matchingSizeByLayers agree for all pairs of different sources, "
                + "groupCount and groupCountBySearch agree, and the counted records are the new ones minus the removed "
                + "ones.", () -> {
            Scene dropped = FULL.then(x -> x.drop('a', 0)).then(x -> x.drop('c', 270));
            Scene[] scenes = {EMPTY, counted("a1=1"), FULL, dropped, dropped.then(RecordReconciler::undo),
                dropped.then(counted("a0=1 c270=1")), counted("a1=1").then(x -> x.drop('a', 1)),
                counted("a1=1").then(RecordReconciler::undo), FULL.then(RecordReconciler::save).then(x -> x.drop('a', 0))
                    .then(RecordReconciler::restore), FULL.then(reported("a999=1")).then(x -> Checks.outcome(x::closeBatch)),
                counted(Views.row('a', 0, 1, 10, 50), Views.row('b', 10, 1, 10, 50), Views.row('c', 20, 1, 10, 50))};
            for (int i = 0; i < scenes.length; i++) {
                answers("scene " + i, scenes[i], true, RecordReconciler::isConsistent);
                answers("scene " + i + " by itself", scenes[i], true, x -> x.recordCount() == x.newTotal() - x.droppedTotal()
                        && x.groupCount() == x.groupCountBySearch()
                        && x.matchingSize('a', 'b') == x.matchingSizeByLayers('a', 'b')
                        && x.matchingSize('a', 'c') == x.matchingSizeByLayers('a', 'c')
                        && x.matchingSize('b', 'c') == x.matchingSizeByLayers('b', 'c'));
                unchanged("asking in scene " + i, busy(scenes[i]), RecordReconciler::isConsistent);
            }
        });
        plain(50, "Returns true if all these checks succeed.");
    }
}
