/** Promises 59 to 62, the terms' sentences about undo and errors, and those that concern all methods. */
final class UndoBoundaries extends Boundary {
    private static final String CHANGES = "The calls of the methods to which commands correspond, and of run, that return "
            + "normally are changes, even if they have no effect.";
    private static final String UP_TO_EIGHT = "Up to 8 changes can be undone, the latest change first.";
    private static final String NOT_AFFECTED = "Undo does not affect the input buffer, the error position, the index of the "
            + "failed command, the formatted line, or the saved copy.";

    /** A scene in which each change can be made. */
    private static final Scene READY = counted("a1=1 b1=2 c2=3").then(reported("c5=5 a1=1"));

    private UndoBoundaries() {
    }

    static void go() {
        changes();
        upToEight();
        notAffected();
        undo();
        save();
        restore();
        errors();
        firstException();
        asksChangeNothing();
        longLife();
        plain(0, "Undo.", "Errors.", "The class is not thread-safe.", "Integer divisions round towards zero.",
                "A reconciliation service for counts from several sources: records with keys, duplicates, batches that are "
                + "closed, matching of unequal records, disputes, and rejected batches.");
    }

    /** Each method that makes a change, with arguments that READY allows. */
    private static Question[] eachChange() {
        return new Question[] {x -> x.report('b', 9, 9), x -> x.withdraw('c', 5, 5), RecordReconciler::closeBatch,
            RecordReconciler::rejectBatch, x -> x.settle('a', 1), x -> x.drop('c', 2), x -> x.pass(1),
            x -> Views.run(x, "days 1;drop c2;close")};
    }

    private static void changes() {
        test(59, CHANGES, () -> {
            Question[] calls = eachChange();
            for (int i = 0; i < calls.length; i++) {
                Question call = calls[i];
                answers("change " + i, READY.then(call::ask), at(READY).undoableCount() + 1, RecordReconciler::undoableCount);
                answers("change " + i + " is taken back", READY.then(call::ask).then(RecordReconciler::undo),
                        Views.state(at(READY)), Views::state);
            }
            answers("run without effect", READY.then(ran("report b9=9;take b9=9")),
                    at(READY).undoableCount() + 1, RecordReconciler::undoableCount);
            answers("run without effect, taken back", READY.then(ran("report b9=9;take b9=9")).then(RecordReconciler::undo),
                    Views.state(at(READY)), Views::state);
            answers("run of ten commands", ran("close;".repeat(9) + "close"), 1, RecordReconciler::undoableCount);
            answers("an empty batch closed", RecordReconciler::closeBatch, 1, RecordReconciler::undoableCount);
            answers("an empty batch rejected", RecordReconciler::rejectBatch, 1, RecordReconciler::undoableCount);
            noChanges();
        });
    }

    private static void noChanges() {
        int before = at(READY).undoableCount();
        Scene[] calls = {x -> x.save(), x -> x.formatBatch(), x -> x.formatKey(1), x -> x.append('x'), x -> x.isConsistent(),
            ran("x"), ran("days 0"), ran("days 1;days 0"), x -> Checks.outcome(() -> x.pass(0)),
            x -> Checks.outcome(() -> x.report('d', 1, 1)), x -> Checks.outcome(() -> x.withdraw('c', 5, 6)),
            x -> Checks.outcome(() -> x.settle('c', 2)), x -> Checks.outcome(() -> x.drop('c', 1))};
        for (int i = 0; i < calls.length; i++) {
            answers("no change " + i, READY.then(calls[i]), before, RecordReconciler::undoableCount);
        }
        answers("a closing that fails", FULL.then(reported("a999=1")).then(x -> Checks.outcome(x::closeBatch)), 8,
                RecordReconciler::undoableCount);
    }

    /** So many changes: after i of them it is day i. */
    private static Scene days(int number) {
        return repeated(number, x -> x.pass(1));
    }

    private static void upToEight() {
        test(60, UP_TO_EIGHT, () -> {
            for (int number : new int[] {0, 1, 2, 7, 8, 9, 10, 15, 16, 17, 24, 25, 100}) {
                int undoable = Math.min(8, number);
                for (int undone = 1; undone <= undoable; undone++) {
                    answers(undone + " of " + number, days(number).then(repeated(undone, RecordReconciler::undo)),
                            (number - undone) + " " + (undoable - undone), x -> x.day() + " " + x.undoableCount());
                }
                refusedAsItIs("one more of " + number, days(number).then(repeated(undoable, RecordReconciler::undo)), STATE,
                        RecordReconciler::undo);
            }
        });
        test(59, "Returns the number of changes that can be undone.", () -> {
            for (int number : new int[] {0, 1, 7, 8, 9, 16, 17}) {
                answers("after " + number, days(number), Math.min(8, number), RecordReconciler::undoableCount);
            }
            answers("one less", days(9).then(RecordReconciler::undo), 7, RecordReconciler::undoableCount);
            answers("one less and one more", days(9).then(RecordReconciler::undo).then(days(1)), 8,
                    RecordReconciler::undoableCount);
            answers("one less and two more", days(9).then(RecordReconciler::undo).then(days(2)), 8,
                    RecordReconciler::undoableCount);
        });
        test(59, "Returns the number, 0 to 8.", () -> {
            answers("0", EMPTY, 0, RecordReconciler::undoableCount);
            answers("0 and one undo more", x -> Checks.outcome(x::undo), 0, RecordReconciler::undoableCount);
            answers("8", days(8), 8, RecordReconciler::undoableCount);
            answers("8 and one change more", days(9), 8, RecordReconciler::undoableCount);
        });
    }

    private static void notAffected() {
        test(60, NOT_AFFECTED, () -> {
            Scene scene = counted("a1=1 b1=2").then(ran("dx")).then(ran("days 1;days 0")).then(RecordReconciler::save)
                    .then(x -> x.pass(5)).then(x -> x.formatKey(1)).then(typed("days 7"));
            for (int undone = 1; undone <= 2; undone++) {
                Scene after = scene.then(repeated(undone, RecordReconciler::undo));
                answers("buffer after " + undone, after, 7, x -> x.append('7'));
                answers("buffer runs after " + undone, after, "1 7", x -> {
                    int day = x.day();
                    return x.run() + " " + (x.day() - day);
                });
                answers("error position after " + undone, after, 1, RecordReconciler::errorPosition);
                answers("failed command after " + undone, after, 1, RecordReconciler::failedCommand);
                answers("line after " + undone, after, "1: a1 b2 disputed ~1", Views::line);
                answers("saved copy after " + undone, after, "2 1 a", x -> x.restore() + " " + x.day() + " "
                        + (x.hasRecord('a', 1) ? "a" : ""));
            }
            answers("a run's buffer stays empty", ran("days 1").then(RecordReconciler::undo), 1, x -> x.append('x'));
            answers("an undone call's line stays", counted("a1=1").then(x -> x.formatRecord('a', 1))
                    .then(RecordReconciler::undo), "0 a1=1 @0", x -> x.recordCount() + " " + Views.line(x));
            answers("what was stored before the change is not brought back", x -> x.pass(1), "throws "
                    + "IllegalArgumentException 0", x -> {
                        String ended = Checks.outcome(x::run);
                        x.undo();
                        return ended + " " + x.errorPosition();
                    });
        });
    }

    private static void undo() {
        test(60, "Undoes the latest change that has not been undone.", () -> {
            answers("then the one before it", days(3).then(repeated(2, RecordReconciler::undo)), 1, RecordReconciler::day);
            answers("a change after an undo", days(3).then(RecordReconciler::undo).then(x -> x.pass(50))
                    .then(RecordReconciler::undo), 2, RecordReconciler::day);
            answers("and the one before that", days(3).then(RecordReconciler::undo).then(x -> x.pass(50))
                    .then(repeated(2, RecordReconciler::undo)), 1, RecordReconciler::day);
            answers("at eight", days(8).then(repeated(8, RecordReconciler::undo)).then(x -> x.pass(50))
                    .then(RecordReconciler::undo), 0, RecordReconciler::day);
            answers("beyond eight", days(12).then(repeated(3, RecordReconciler::undo)).then(x -> x.pass(50))
                    .then(repeated(2, RecordReconciler::undo)), 8, RecordReconciler::day);
            everythingComesBack();
        });
        test(60, "Returns the number of changes that can still be undone.", () -> {
            for (int number : new int[] {1, 2, 7, 8, 9, 17}) {
                answers("of " + number, days(number), Math.min(8, number) - 1, RecordReconciler::undo);
            }
            answers("the last one", days(9).then(repeated(7, RecordReconciler::undo)), 0, RecordReconciler::undo);
        });
        test(60, "Throws `IllegalStateException` if no change can be undone", () -> {
            refusedAsItIs("none at all", EMPTY, STATE, RecordReconciler::undo);
            refusedAsItIs("none but refused calls", x -> Checks.outcome(() -> x.pass(0)), STATE, RecordReconciler::undo);
            neverThrows("one", days(1), STATE, RecordReconciler::undo);
            refusedAsItIs("one undone", days(1).then(RecordReconciler::undo), STATE, RecordReconciler::undo);
            neverThrows("the eighth", days(20).then(repeated(7, RecordReconciler::undo)), STATE, RecordReconciler::undo);
            refusedAsItIs("the ninth", days(20).then(repeated(8, RecordReconciler::undo)), STATE, RecordReconciler::undo);
            refusedAsItIs("after restore", days(3).then(RecordReconciler::save).then(days(3)).then(RecordReconciler::restore),
                    STATE, RecordReconciler::undo);
            neverThrows("a change after restore", days(3).then(RecordReconciler::save).then(RecordReconciler::restore)
                    .then(days(1)), STATE, RecordReconciler::undo);
        });
    }

    /** Changes of every kind, as many as go twice round the eight; each state comes back as it was. */
    private static void everythingComesBack() {
        Scene[] steps = {reported("a1=1"), reported("b1=2"), RecordReconciler::closeBatch, x -> x.settle('a', 1),
            x -> x.drop('b', 1), reported("a1=2"), x -> x.withdraw('a', 1, 2), RecordReconciler::rejectBatch,
            x -> x.pass(9), ran("report b1=9;close;settle b1;drop a1;report c3=3"), reported("b3=4"),
            RecordReconciler::closeBatch, reported("c3=4"), x -> x.settle('b', 3), RecordReconciler::closeBatch,
            x -> x.pass(99), RecordReconciler::rejectBatch};
        for (int made = 1; made <= steps.length; made++) {
            RecordReconciler x = new RecordReconciler();
            String[] states = new String[made];
            for (int i = 0; i < made; i++) {
                states[i] = Views.state(x);
                steps[i].play(x);
            }
            for (int i = made - 1; i >= Math.max(0, made - 8); i--) {
                x.undo();
                same("state before step " + i + " of " + made, Views.state(x), states[i]);
            }
        }
    }

    private static void save() {
        test(61, "Saves a copy of everything that changes can change, replacing an earlier copy.", () -> {
            Scene everything = counted("a1=1 b1=2 c1=3 a2=4 b2=4", "a2=5 b2=4").then(x -> x.settle('a', 1))
                    .then(x -> x.drop('c', 1)).then(RecordReconciler::rejectBatch).then(reported("a7=7 a7=8"));
            Scene other = ran("close;days 9;drop a1;report b9=9").then(counted("c2=2")).then(x -> x.settle('c', 2));
            answers("everything", everything.then(RecordReconciler::save).then(other).then(RecordReconciler::restore),
                    Views.state(at(everything)), Views::state);
            answers("of an empty object", EMPTY.then(RecordReconciler::save).then(everything).then(RecordReconciler::restore),
                    Views.state(at(EMPTY)), Views::state);
            answers("the second copy", EMPTY.then(RecordReconciler::save).then(everything).then(RecordReconciler::save)
                    .then(other).then(RecordReconciler::restore), Views.state(at(everything)), Views::state);
            answers("an earlier state as the second copy", everything.then(RecordReconciler::save).then(days(2))
                    .then(RecordReconciler::undo).then(RecordReconciler::save).then(other).then(RecordReconciler::restore),
                    Views.state(at(everything.then(days(1)))), Views::state);
            same("saving changes nothing else", whole(everything.then(RecordReconciler::save)).replaceAll("(?s)\nrestored.*",
                    ""), whole(everything).replaceAll("(?s)\nrestored.*", ""));
            answers("not the buffer, which stays as it is", typed("da").then(RecordReconciler::save).then(typed("ys 7"))
                    .then(RecordReconciler::restore), "1 7", x -> x.run() + " " + x.day());
            answers("not the indices", RecordReconciler::save, "throws IllegalArgumentException 2 0", x -> {
                String ended = Checks.outcome(() -> Views.run(x, "da"));
                x.restore();
                return ended + " " + x.errorPosition() + " " + x.undoableCount();
            });
            answers("not what is no change: the line", everything.then(x -> x.formatKey(1)).then(RecordReconciler::save)
                    .then(x -> x.formatKey(2)).then(RecordReconciler::restore), "2: a5 b4 disputed ~4", Views::line);
        });
        test(61, "Returns the number of counted records.", () -> {
            answers("0", reported("a1=1"), 0, RecordReconciler::save);
            answers("1", counted("a1=1"), 1, RecordReconciler::save);
            answers("29", FULL.then(x -> x.drop('a', 0)), 29, RecordReconciler::save);
            answers("30", FULL, 30, RecordReconciler::save);
        });
    }

    private static void restore() {
        Scene saved = counted("a1=1").then(reported("b2=2")).then(RecordReconciler::save);
        String state = Views.state(at(saved));
        test(62, "Restores the saved copy, which stays available.", () -> {
            answers("once", saved.then(RecordReconciler::closeBatch).then(RecordReconciler::restore), state, Views::state);
            answers("at once", saved.then(RecordReconciler::restore), state, Views::state);
            answers("twice", saved.then(repeated(2, counted("b1=9 c3=3").then(x -> x.settle('a', 1))
                    .then(RecordReconciler::restore))), state, Views::state);
            answers("nine times", saved.then(repeated(9, days(2).then(RecordReconciler::restore))), state, Views::state);
            answers("an undone restoring is none", saved.then(days(1)).then(RecordReconciler::restore)
                    .then(x -> Checks.outcome(x::undo)), state, Views::state);
            answers("the copy does not change with the object", saved.then(RecordReconciler::restore).then(days(1))
                    .then(x -> x.drop('a', 1)).then(RecordReconciler::restore), state, Views::state);
        });
        test(62, "No changes can be undone afterwards.", () -> {
            for (int number : new int[] {0, 1, 8, 9}) {
                Scene restored = saved.then(days(number)).then(RecordReconciler::restore);
                answers("none after " + number, restored, 0, RecordReconciler::undoableCount);
                refusedAsItIs("none after " + number, restored, STATE, RecordReconciler::undo);
                answers("one after one more", restored.then(days(1)), "1 0", x -> x.undoableCount() + " " + x.undo());
                answers("eight after nine more", restored.then(days(9)), 8, RecordReconciler::undoableCount);
                answers("back to the copy", restored.then(days(8)).then(repeated(8, RecordReconciler::undo)), state,
                        Views::state);
            }
        });
        test(62, "Returns the number of counted records.", () -> {
            answers("0", EMPTY.then(RecordReconciler::save).then(counted("a1=1")), 0, RecordReconciler::restore);
            answers("1", saved.then(x -> x.drop('a', 1)), 1, RecordReconciler::restore);
            answers("29", FULL.then(x -> x.drop('a', 0)).then(RecordReconciler::save).then(counted("a0=1")), 29,
                    RecordReconciler::restore);
            answers("30", FULL.then(RecordReconciler::save).then(x -> x.drop('a', 0)), 30, RecordReconciler::restore);
        });
        test(62, "Throws `IllegalStateException` if there is no saved copy", () -> {
            refusedAsItIs("none", EMPTY, STATE, RecordReconciler::restore);
            refusedAsItIs("none, and changes", READY, STATE, RecordReconciler::restore);
            refusedAsItIs("refused before", READY.then(x -> Checks.outcome(x::restore)), STATE, RecordReconciler::restore);
            neverThrows("one", READY.then(RecordReconciler::save), STATE, RecordReconciler::restore);
            neverThrows("one of an empty object", EMPTY.then(RecordReconciler::save), STATE, RecordReconciler::restore);
            neverThrows("one, restored before", READY.then(RecordReconciler::save).then(RecordReconciler::restore), STATE,
                    RecordReconciler::restore);
            neverThrows("one, older than the changes that can be undone", EMPTY.then(RecordReconciler::save).then(days(20)),
                    STATE, RecordReconciler::restore);
        });
    }

    /** Every exception of every method but run's, whose description says otherwise. */
    private static void errors() {
        test(60, "A method that throws an exception leaves the service unchanged, unless its description says otherwise.", () -> {
            Question[] calls = {x -> x.report('d', 1, 1), x -> x.withdraw('d', 1, 1), x -> x.withdraw('b', 1, 1),
                x -> x.settle('d', 1), x -> x.settle('c', 1), x -> x.settle('c', 2), x -> x.drop('a', 1000),
                x -> x.drop('c', 1), x -> x.pass(100), x -> x.reportSource(2), x -> x.reportKey(2), x -> x.reportAmount(-1),
                x -> x.outcomeOf(2), x -> x.recordsOf('d'), x -> x.hasRecord('a', -1), x -> x.amountOf('c', 1),
                x -> x.dayOf('c', 1), x -> x.keyAt('a', 1), x -> x.keyAt('d', 0), x -> x.oldestKey('d'), x -> x.statusOf(5),
                x -> x.statusOf(-1), x -> x.disputedAt(1), x -> x.acceptedAmount(5), x -> x.totalOf('d'),
                x -> x.isPossiblePair('a', 1, 'b', 2), x -> x.isPossiblePair('a', 1, 'a', 1), x -> x.possiblePairs('a', 'a'),
                x -> x.matchingSize('a', 'd'), x -> x.matchingSizeByLayers('d', 'a'), x -> x.isNeeded('c', 1, 'a'),
                x -> x.isNeeded('c', 2, 'c'), x -> x.groupSize('c', 1), x -> x.trustOf('d'), x -> x.formatRecord('c', 1),
                x -> x.formatKey(5), x -> x.lineChar(99), x -> x.append((char) 31)};
            String before = whole(busy(READY));
            for (int i = 0; i < calls.length; i++) {
                Question call = calls[i];
                String ended = outcome(busy(READY), call);
                same("call " + i + " throws", ended.startsWith("throws "), true);
                same("call " + i + " changes nothing", whole(busy(READY).then(x -> Checks.outcome(() -> call.ask(x)))), before);
            }
            refused("13th report", repeated(12, reported("a1=1")), STATE, x -> x.report('a', 1, 1));
            refused("31st record", FULL.then(reported("a1=1")), STATE, RecordReconciler::closeBatch);
            refused("means of nothing", EMPTY, ARITHMETIC, RecordReconciler::meanAmount);
            refused("share of nothing", EMPTY, ARITHMETIC, RecordReconciler::confirmedShare);
            refused("oldest of nothing", EMPTY, ELEMENT, x -> x.oldestKey('a'));
            refusedAsItIs("61st character", typed("x".repeat(60)), STATE, x -> x.append('x'));
            refusedAsItIs("no error", READY, ELEMENT, RecordReconciler::errorPosition);
            refusedAsItIs("no failure", READY, ELEMENT, RecordReconciler::failedCommand);
            refusedAsItIs("nothing to undo", EMPTY, STATE, RecordReconciler::undo);
            refusedAsItIs("nothing to restore", READY, STATE, RecordReconciler::restore);
        });
    }

    /** Where more than one condition holds, and where only the later one does. */
    private static void firstException() {
        test(2, "If several conditions of a method apply, the exception that is listed first is thrown.", () -> {
            Scene twelve = repeated(12, reported("a1=1"));
            refused("report", twelve, ARGUMENT, x -> x.report('d', 1, 1));
            refused("report", twelve, STATE, x -> x.report('c', 1, 1));
            refused("withdraw", EMPTY, ARGUMENT, x -> x.withdraw('a', 1, 100));
            refused("withdraw", EMPTY, ELEMENT, x -> x.withdraw('a', 1, 99));
            Scene open = counted("a17=1 b18=1");
            refused("settle", open, ARGUMENT, x -> x.settle('d', 17));
            refused("settle", open, ARGUMENT, x -> x.settle('a', 1000));
            refused("settle", open, ELEMENT, x -> x.settle('b', 17));
            refused("settle", open, STATE, x -> x.settle('a', 17));
            refused("drop", open, ARGUMENT, x -> x.drop('d', 18));
            refused("drop", open, ELEMENT, x -> x.drop('a', 18));
            refused("keyAt", open, ARGUMENT, x -> x.keyAt('d', 1));
            refused("keyAt", open, ARGUMENT, x -> x.keyAt('d', -1));
            refused("keyAt", open, INDEX, x -> x.keyAt('a', 1));
            refused("isPossiblePair", open, ARGUMENT, x -> x.isPossiblePair('b', 17, 'b', 18));
            refused("isPossiblePair", open, ARGUMENT, x -> x.isPossiblePair('b', 17, 'a', -1));
            refused("isPossiblePair", open, ELEMENT, x -> x.isPossiblePair('b', 17, 'a', 17));
            refused("isNeeded", open, ARGUMENT, x -> x.isNeeded('b', 17, 'b'));
            refused("isNeeded", open, ELEMENT, x -> x.isNeeded('b', 17, 'a'));
            refusedAsItIs("append", typed("x".repeat(60)), ARGUMENT, x -> x.append((char) 127));
            refusedAsItIs("append", typed("x".repeat(60)), STATE, x -> x.append('~'));
            answers("run", typed("drop a1;x"), "throws IllegalArgumentException", RecordReconciler::run);
            answers("run", typed("drop a1"), "throws IllegalStateException", RecordReconciler::run);
            answers("run, the first command that fails", ran("days 1;days 0;drop a1"), 1, RecordReconciler::failedCommand);
        });
    }

    /** What only answers does not change anything, even at the limits. */
    private static void asksChangeNothing() {
        test(59, "Returns the number of changes that can be undone.", () -> {
            Scene scene = busy(FULL.then(repeated(12, reported("a999=1"))));
            unchanged("undoableCount", scene, RecordReconciler::undoableCount);
            unchanged("all that Views ask", scene, Views::all);
            unchanged("matching", scene, x -> x.matchingSize('a', 'b') + x.matchingSizeByLayers('a', 'b')
                    + x.possiblePairs('b', 'c') + x.groupCount() + x.groupCountBySearch() + x.groupSize('a', 0));
            unchanged("counts", scene, x -> x.confirmedCount() + x.disputedCount() + x.openCount() + x.acceptedTotal()
                    + x.disputedAt(0) + x.oldestKey('c') + x.mostTrusted() + x.meanAmount() + x.confirmedShare());
        });
    }

    private static void longLife() {
        test(8, "An object is used for at most 512 calls after it has been made; what later calls answer is free.", () -> {
            answers("the 512th call", repeated(511, x -> x.pass(99)), 512 * 99, x -> x.pass(99));
            answers("the 512th call", repeated(511, RecordReconciler::closeBatch), 511, RecordReconciler::closedTotal);
            answers("the 512th call", repeated(503, x -> x.pass(99)).then(repeated(8, RecordReconciler::undo)), 495 * 99,
                    RecordReconciler::day);
            answers("the 512th call", repeated(255, x -> {
                x.report('a', 0, 1);
                x.withdraw('a', 0, 1);
            }).then(x -> x.report('a', 0, 1)), 1, RecordReconciler::reportCount);
        });
    }
}
