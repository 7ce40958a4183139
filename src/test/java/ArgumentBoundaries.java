import java.util.function.IntFunction;

/** Sentences about arguments that many methods have in the same words: sources, keys, and amounts. */
final class ArgumentBoundaries extends Boundary {
    private static final String SOURCE = "`source`: the source, 'a', 'b' or 'c'";
    private static final String KEY = "`key`: the key, 0 to 999";
    private static final String AMOUNT = "`amount`: the amount, 1 to 99";
    private static final String OTHER = "`other`: the other source";
    private static final String NO_SOURCE = "Throws `IllegalArgumentException` if there is no such source";
    private static final String NO_SOURCE_OR_KEY = NO_SOURCE + ", or the key is out of range";
    private static final String NO_REPORT_ARGUMENT = NO_SOURCE + ", or one of the other arguments is out of range";
    private static final String NO_KEY = "Throws `IllegalArgumentException` if the key is out of range";
    private static final String NO_TWO = NO_SOURCE + ", for either, or both are the same";
    private static final String NO_TWO_OR_KEY = NO_SOURCE
            + ", for either, both are the same, or the key is out of range";

    /** Each source has the keys 0, 1, 998, 999, in batches of the days 1 to 4; all four keys are disputed. */
    private static final Scene ALL = counted("a700=1 b700=2 b500=50 c501=50 c502=50 c503=99", all(0), all(1), all(998),
            all(999)).then(x -> x.settle('a', 700));
    /** Of a and b one pair is possible, of a and c three are, of b and c five are; no record is in two of these. */
    private static final Scene PAIRS = counted("a100=50 b110=50 a300=20 c310=20 a320=20 c330=20",
            "b500=70 c510=70 b520=70 c530=70 b540=70 c550=70");

    private interface OfReport {
        Object ask(RecordReconciler x, char source, int key, int amount);
    }

    private ArgumentBoundaries() {
    }

    static void go() {
        reports();
        records();
        sources();
        keys();
        twoSources();
        isPossiblePair();
        isNeeded();
    }

    private static String all(int key) {
        return "a" + key + "=" + amount('a', key) + " b" + key + "=" + amount('b', key) + " c" + key + "="
                + amount('c', key);
    }

    private static int amount(char source, int key) {
        return 10 * (source - 'a' + 1) + key % 7;
    }

    private static int day(int key) {
        return key == 0 ? 1 : key == 1 ? 2 : key == 998 ? 3 : 4;
    }

    private static boolean isSource(char source) {
        return "abc".indexOf(source) >= 0;
    }

    private static boolean isKey(int key) {
        return key >= 0 && key <= 999;
    }

    private static void reports() {
        reportArguments(2, EMPTY, (x, source, key, amount) -> x.report(source, key, amount) + " "
                + x.reportSource(0) + x.reportKey(0) + "=" + x.reportAmount(0),
                (x, source, key, amount) -> "1 " + source + key + "=" + amount);
        Scene batch = reported("a0=1 a1=2 a998=98 a999=99 b0=2 b1=98 b998=99 b999=1 c0=98 c1=99 c998=1 c999=2");
        test(3, SOURCE, () -> {
            answers("a", batch, 11, x -> x.withdraw('a', 0, 1));
            answers("b", batch, 11, x -> x.withdraw('b', 0, 2));
            answers("c", batch, 11, x -> x.withdraw('c', 0, 98));
            noSource(batch, (x, source) -> x.withdraw(source, 0, 1));
        });
        test(3, KEY, () -> {
            answers("0", batch, 11, x -> x.withdraw('b', 0, 2));
            answers("1", batch, 11, x -> x.withdraw('b', 1, 98));
            answers("998", batch, 11, x -> x.withdraw('b', 998, 99));
            answers("999", batch, 11, x -> x.withdraw('b', 999, 1));
            noKey(batch, (x, key) -> x.withdraw('b', key, 1));
        });
        test(3, AMOUNT, () -> {
            answers("1", batch, 11, x -> x.withdraw('a', 0, 1));
            answers("2", batch, 11, x -> x.withdraw('c', 999, 2));
            answers("98", batch, 11, x -> x.withdraw('a', 998, 98));
            answers("99", batch, 11, x -> x.withdraw('b', 998, 99));
            for (int amount : NO_AMOUNTS) {
                refused("amount " + amount, batch, ARGUMENT, x -> x.withdraw('a', 0, amount));
            }
        });
        test(2, NO_REPORT_ARGUMENT, () -> {
            wrongReports(EMPTY, RecordReconciler::report);
            wrongReports(batch, RecordReconciler::report);
        });
        test(3, NO_REPORT_ARGUMENT, () -> {
            wrongReports(EMPTY, RecordReconciler::withdraw);
            wrongReports(batch, RecordReconciler::withdraw);
        });
    }

    private static void reportArguments(int promise, Scene scene, OfReport call, OfReport due) {
        test(promise, SOURCE, () -> {
            for (char source : SOURCES) {
                answers("" + source, scene, due.ask(null, source, 17, 40), x -> call.ask(x, source, 17, 40));
            }
            noSource(scene, (x, source) -> call.ask(x, source, 17, 40));
        });
        test(promise, KEY, () -> {
            for (int key : KEYS) {
                answers("" + key, scene, due.ask(null, 'b', key, 40), x -> call.ask(x, 'b', key, 40));
            }
            noKey(scene, (x, key) -> call.ask(x, 'b', key, 40));
        });
        test(promise, AMOUNT, () -> {
            for (int amount : AMOUNTS) {
                answers("" + amount, scene, due.ask(null, 'b', 17, amount), x -> call.ask(x, 'b', 17, amount));
            }
            for (int amount : NO_AMOUNTS) {
                refused("amount " + amount, scene, ARGUMENT, x -> call.ask(x, 'b', 17, amount));
            }
        });
    }

    /** One wrong argument is enough, and none is needed for another exception. */
    private static void wrongReports(Scene scene, OfReport call) {
        for (char source : new char[] {'`', 'a', 'c', 'd'}) {
            for (int key : new int[] {-1, 0, 999, 1000}) {
                for (int amount : new int[] {0, 1, 99, 100}) {
                    String what = (int) source + " " + key + " " + amount;
                    if (isSource(source) && isKey(key) && amount >= 1 && amount <= 99) {
                        neverThrows(what, scene, ARGUMENT, x -> call.ask(x, source, key, amount));
                    } else {
                        refused(what, scene, ARGUMENT, x -> call.ask(x, source, key, amount));
                    }
                }
            }
        }
    }

    private static void noSource(Scene scene, OfSource call) {
        for (char source : NO_SOURCES) {
            refused("source " + (int) source, scene, ARGUMENT, x -> call.ask(x, source));
        }
    }

    private static void noKey(Scene scene, OfNumber call) {
        for (int key : NO_KEYS) {
            refused("key " + key, scene, ARGUMENT, x -> call.ask(x, key));
        }
    }

    private static void records() {
        ofRecord(6, (x, source, key) -> x.settle(source, key) + " " + x.amountOf('a', key) + x.amountOf('c', key),
                (x, source, key) -> "2 " + amount(source, key) + amount(source, key));
        ofRecord(7, (x, source, key) -> x.drop(source, key) + " " + x.hasRecord(source, key),
                (x, source, key) -> "17 false");
        ofRecord(18, RecordReconciler::hasRecord, (x, source, key) -> true);
        ofRecord(19, RecordReconciler::amountOf, (x, source, key) -> amount(source, key));
        ofRecord(20, RecordReconciler::dayOf, (x, source, key) -> day(key));
        ofRecord(38, RecordReconciler::groupSize, (x, source, key) -> 3);
        ofRecord(51, (x, source, key) -> x.formatRecord(source, key) + " " + Views.line(x), (x, source, key) -> {
            String line = source + "" + key + "=" + amount(source, key) + " @" + day(key);
            return line.length() + " " + line;
        });
    }

    private static void ofRecord(int promise, OfRecord call, OfRecord due) {
        test(promise, SOURCE, () -> {
            for (char source : SOURCES) {
                answers("" + source, ALL, due.ask(null, source, 999), x -> call.ask(x, source, 999));
            }
            noSource(ALL, (x, source) -> call.ask(x, source, 999));
        });
        test(promise, KEY, () -> {
            for (int key : KEYS) {
                answers("" + key, ALL, due.ask(null, 'b', key), x -> call.ask(x, 'b', key));
            }
            noKey(ALL, (x, key) -> call.ask(x, 'b', key));
        });
        test(promise, NO_SOURCE_OR_KEY, () -> {
            wrongRecords(ALL, call);
            wrongRecords(EMPTY, call);
        });
    }

    private static void wrongRecords(Scene scene, OfRecord call) {
        for (char source : new char[] {'`', 'a', 'c', 'd'}) {
            for (int key : new int[] {-1, 0, 999, 1000}) {
                String what = (int) source + " " + key;
                if (isSource(source) && isKey(key)) {
                    neverThrows(what, scene, ARGUMENT, x -> call.ask(x, source, key));
                } else {
                    refused(what, scene, ARGUMENT, x -> call.ask(x, source, key));
                }
            }
        }
    }

    private static void sources() {
        ofSource(17, RecordReconciler::recordsOf, 5, 6, 7);
        ofSource(21, (x, source) -> x.keyAt(source, 2), 700, 500, 501);
        ofSource(22, RecordReconciler::oldestKey, 700, 500, 501);
        ofSource(30, RecordReconciler::totalOf, 1 + 40 + 10, 1 + 50 + 80 + 10, 50 + 50 + 99 + 120 + 10);
        ofSource(39, RecordReconciler::trustOf, 6, 4, 5);
    }

    private static void ofSource(int promise, OfSource call, Object... due) {
        test(promise, SOURCE, () -> {
            for (char source : SOURCES) {
                answers("" + source, ALL, due[source - 'a'], x -> call.ask(x, source));
            }
            noSource(ALL, call);
        });
        test(promise, NO_SOURCE, () -> {
            for (char source : SOURCES) {
                neverThrows("" + source, EMPTY, ARGUMENT, x -> call.ask(x, source));
            }
            noSource(EMPTY, call);
        });
    }

    private static void keys() {
        ofKey(23, RecordReconciler::statusOf, key -> 'd');
        ofKey(28, RecordReconciler::acceptedAmount, key -> amount('a', key));
        ofKey(52, (x, key) -> x.formatKey(key) + " " + Views.line(x), key -> {
            String line = key + ": " + "a" + amount('a', key) + " b" + amount('b', key) + " c" + amount('c', key)
                    + " disputed ~" + amount('a', key);
            return line.length() + " " + line;
        });
    }

    private static void ofKey(int promise, OfNumber call, IntFunction<Object> due) {
        test(promise, KEY, () -> {
            for (int key : KEYS) {
                answers("" + key, ALL, due.apply(key), x -> call.ask(x, key));
            }
            noKey(ALL, call);
        });
        test(promise, NO_KEY, () -> {
            for (int key : KEYS) {
                neverThrows("" + key, EMPTY, ARGUMENT, x -> call.ask(x, key));
            }
            noKey(EMPTY, call);
        });
    }

    private static void twoSources() {
        ofTwo(32, RecordReconciler::possiblePairs, 1, 3, 5);
        ofTwo(33, RecordReconciler::matchingSize, 1, 2, 3);
        ofTwo(34, RecordReconciler::matchingSizeByLayers, 1, 2, 3);
    }

    private static void ofTwo(int promise, OfTwo call, int ofAAndB, int ofAAndC, int ofBAndC) {
        test(promise, SOURCE, () -> {
            answers("a with c", PAIRS, ofAAndC, x -> call.ask(x, 'a', 'c'));
            answers("b with c", PAIRS, ofBAndC, x -> call.ask(x, 'b', 'c'));
            answers("c with b", PAIRS, ofBAndC, x -> call.ask(x, 'c', 'b'));
            noSource(PAIRS, (x, source) -> call.ask(x, source, 'b'));
        });
        test(promise, OTHER, () -> {
            answers("a of b", PAIRS, ofAAndB, x -> call.ask(x, 'b', 'a'));
            answers("b of a", PAIRS, ofAAndB, x -> call.ask(x, 'a', 'b'));
            answers("c of a", PAIRS, ofAAndC, x -> call.ask(x, 'a', 'c'));
            noSource(PAIRS, (x, other) -> call.ask(x, 'b', other));
        });
        test(promise, NO_TWO, () -> {
            wrongTwo(PAIRS, call);
            wrongTwo(EMPTY, call);
        });
    }

    /** Each source with each other one, and with those next to them: also twice one that is no source. */
    private static void wrongTwo(Scene scene, OfTwo call) {
        for (char source = '`'; source <= 'd'; source++) {
            for (char other = '`'; other <= 'd'; other++) {
                char one = source;
                char two = other;
                if (isSource(one) && isSource(two) && one != two) {
                    neverThrows(one + " " + two, scene, ARGUMENT, x -> call.ask(x, one, two));
                } else {
                    refused(one + " " + two, scene, ARGUMENT, x -> call.ask(x, one, two));
                }
            }
        }
    }

    private static void isPossiblePair() {
        Scene ends = counted("a0=50 b20=50 a999=50 b979=50 c1=50 c998=50");
        test(31, SOURCE, () -> {
            answers("a", ends, true, x -> x.isPossiblePair('a', 999, 'c', 998));
            answers("b", ends, true, x -> x.isPossiblePair('b', 979, 'c', 998));
            answers("c", ends, true, x -> x.isPossiblePair('c', 998, 'b', 979));
            noSource(ends, (x, source) -> x.isPossiblePair(source, 999, 'c', 998));
        });
        test(31, OTHER, () -> {
            answers("a", ends, true, x -> x.isPossiblePair('c', 998, 'a', 999));
            answers("b", ends, true, x -> x.isPossiblePair('c', 998, 'b', 979));
            answers("c", ends, true, x -> x.isPossiblePair('a', 999, 'c', 998));
            noSource(ends, (x, other) -> x.isPossiblePair('c', 998, other, 999));
        });
        test(31, KEY, () -> {
            answers("0", ends, true, x -> x.isPossiblePair('a', 0, 'b', 20));
            answers("1", ends, true, x -> x.isPossiblePair('c', 1, 'b', 20));
            answers("998", ends, true, x -> x.isPossiblePair('c', 998, 'b', 979));
            answers("999", ends, true, x -> x.isPossiblePair('a', 999, 'b', 979));
            noKey(ends, (x, key) -> x.isPossiblePair('a', key, 'b', 20));
        });
        test(31, "`otherKey`: the key of the record of the other source, 0 to 999", () -> {
            answers("0", ends, true, x -> x.isPossiblePair('b', 20, 'a', 0));
            answers("1", ends, true, x -> x.isPossiblePair('b', 20, 'c', 1));
            answers("998", ends, true, x -> x.isPossiblePair('b', 979, 'c', 998));
            answers("999", ends, true, x -> x.isPossiblePair('b', 979, 'a', 999));
            noKey(ends, (x, key) -> x.isPossiblePair('b', 20, 'a', key));
        });
        test(31, NO_SOURCE + ", for either, both are the same, or a key is out of range", () -> {
            for (Scene scene : new Scene[] {ends, EMPTY}) {
                wrongTwo(scene, (x, source, other) -> x.isPossiblePair(source, 0, other, 999));
                wrongPairKeys(scene);
            }
        });
    }

    private static void wrongPairKeys(Scene scene) {
        for (int key : new int[] {-1, 0, 999, 1000}) {
            for (int otherKey : new int[] {-1, 0, 999, 1000}) {
                String what = key + " " + otherKey;
                if (isKey(key) && isKey(otherKey)) {
                    neverThrows(what, scene, ARGUMENT, x -> x.isPossiblePair('a', key, 'b', otherKey));
                } else {
                    refused(what, scene, ARGUMENT, x -> x.isPossiblePair('a', key, 'b', otherKey));
                }
            }
        }
    }

    private static void isNeeded() {
        Scene ends = counted("a0=50 b10=50 a999=50 b979=50 c300=50 a301=50 c500=1 b501=1");
        test(35, SOURCE, () -> {
            answers("a", ends, true, x -> x.isNeeded('a', 0, 'b'));
            answers("b", ends, true, x -> x.isNeeded('b', 10, 'a'));
            answers("c", ends, true, x -> x.isNeeded('c', 300, 'a'));
            noSource(ends, (x, source) -> x.isNeeded(source, 0, 'b'));
        });
        test(35, KEY, () -> {
            Scene inner = counted("a1=50 b10=50 a998=50 b979=50");
            answers("0", ends, true, x -> x.isNeeded('a', 0, 'b'));
            answers("1", inner, true, x -> x.isNeeded('a', 1, 'b'));
            answers("998", inner, true, x -> x.isNeeded('a', 998, 'b'));
            answers("999", ends, true, x -> x.isNeeded('a', 999, 'b'));
            noKey(ends, (x, key) -> x.isNeeded('a', key, 'b'));
        });
        test(35, OTHER, () -> {
            answers("a of b", ends, true, x -> x.isNeeded('b', 10, 'a'));
            answers("b of a", ends, true, x -> x.isNeeded('a', 0, 'b'));
            answers("c of a", ends, false, x -> x.isNeeded('a', 0, 'c'));
            answers("c of b", ends, true, x -> x.isNeeded('b', 501, 'c'));
            noSource(ends, (x, other) -> x.isNeeded('a', 0, other));
        });
        test(35, NO_TWO_OR_KEY, () -> {
            for (Scene scene : new Scene[] {ends, EMPTY}) {
                wrongTwo(scene, (x, source, other) -> x.isNeeded(source, 0, other));
                wrongTwo(scene, (x, source, other) -> x.isNeeded(source, 999, other));
                wrongRecords(scene, (x, source, key) -> x.isNeeded(source, key, source == 'b' ? 'c' : 'b'));
            }
        });
    }
}
