import java.util.Random;

/** Promises 31 to 38, and the terms' sentences about matching. */
final class MatchingBoundaries extends Boundary {
    private static final String POSSIBLE = "A pair of a counted record of one source and one of another source is possible "
            + "if the first source has no record with the key of the second one and the second source has none with the "
            + "key of the first one, the keys differ by at most 20, and the amounts by at most 5.";
    private static final String MATCHING = "A matching is a set of possible pairs in which no record occurs twice.";
    private static final String GREATEST =
            "The matching size of two sources is the greatest number of pairs that a matching of them has.";
    private static final String LINKED =
            "Two counted records are linked if they have the same key, or if they are a possible pair.";
    private static final String GROUP =
            "A group consists of all counted records that are connected by links, directly or by way of others.";

    /** 30 records, a and b by turns, each of them a possible pair with the next one and with no other. */
    private static final Scene CHAIN = counted(Views.row('a', 0, 40, 15, 50), Views.row('b', 20, 40, 15, 55));
    /** 15 records of a, with the 15 keys below those of b. */
    private static final Scene CROWD = counted(Views.row('a', 0, 1, 15, 50), Views.row('b', 15, 1, 15, 50));
    private static final Scene THIRTY_KEYS = counted(Views.row('b', 0, 1, 30, 50));

    /** a0 to a5 go with two b's each, the lower of which they take first; a6 goes with the lowest b alone. */
    private static final Scene REORDERED = counted("a0=19 a1=25 a2=31 a3=37 a4=43 a5=49 a6=11",
            "b7=16 b8=22 b9=28 b10=34 b11=40 b12=46 b13=52");

    private MatchingBoundaries() {
    }

    static void go() {
        possible();
        isPossiblePair();
        possiblePairs();
        matching(33, RecordReconciler::matchingSize);
        matching(34, RecordReconciler::matchingSizeByLayers);
        isNeeded();
        linked(36, RecordReconciler::groupCount);
        linked(37, RecordReconciler::groupCountBySearch);
        groupSize();
        askedBefore();
        noRecord(35, (x, source, key) -> x.isNeeded(source, key, source == 'b' ? 'c' : 'b'));
        noRecord(38, RecordReconciler::groupSize);
        for (int promise : new int[] {32, 36, 37, 38}) {
            plain(promise, "Returns the number.");
        }
        plain(0, "Matching.", "Records of two sources that do not share a key can still be meant for the same thing.");
        plain(31, "Returns true if they are.");
        plain(33, "Returns the number of pairs.");
        plain(34, "Returns the number of pairs.");
        plain(35, "Returns true if it would be smaller.");
    }

    /** Two records that no other one disturbs: what is asked about them follows from whether they are a pair. */
    private static void pair(char source, int key, int amount, char other, int otherKey, int otherAmount, boolean due) {
        String records = "" + source + key + "=" + amount + " " + other + otherKey + "=" + otherAmount;
        Scene scene = counted(records);
        int one = due ? 1 : 0;
        answers(records, scene, due, x -> x.isPossiblePair(source, key, other, otherKey));
        answers(records + " other way round", scene, due, x -> x.isPossiblePair(other, otherKey, source, key));
        answers(records + ": pairs, size, size, needed, groups, groups, members", scene,
                one + " " + one + " " + one + " " + due + due + " " + (2 - one) + " " + (2 - one) + " " + (1 + one),
                x -> x.possiblePairs(source, other) + " " + x.matchingSize(source, other) + " "
                        + x.matchingSizeByLayers(source, other) + " " + x.isNeeded(source, key, other)
                        + x.isNeeded(other, otherKey, source) + " " + x.groupCount() + " " + x.groupCountBySearch() + " "
                        + x.groupSize(source, key));
    }

    private static void possible() {
        test(31, POSSIBLE, () -> {
            for (int keys : new int[] {-21, -20, -19, -1, 1, 19, 20, 21}) {
                for (int amounts : new int[] {-6, -5, -4, 0, 4, 5, 6}) {
                    boolean due = Math.abs(keys) <= 20 && Math.abs(amounts) <= 5;
                    pair('a', 500, 50, 'b', 500 + keys, 50 + amounts, due);
                    pair('c', 500, 50, 'b', 500 + keys, 50 + amounts, due);
                    pair('c', 500, 50, 'a', 500 + keys, 50 + amounts, due);
                }
            }
            pair('a', 0, 1, 'c', 20, 6, true);
            pair('a', 0, 1, 'c', 20, 7, false);
            pair('a', 0, 1, 'c', 21, 6, false);
            pair('b', 999, 99, 'c', 979, 94, true);
            pair('b', 999, 99, 'c', 979, 93, false);
            pair('b', 999, 99, 'c', 978, 94, false);
            pair('b', 0, 1, 'c', 999, 99, false);
            sharedKeys();
        });
    }

    private static void shared(String records, boolean due) {
        answers(records, counted(records), due, x -> x.isPossiblePair('a', 10, 'b', 11));
        answers(records + " other way round", counted(records), due, x -> x.isPossiblePair('b', 11, 'a', 10));
        answers(records + ": size", counted(records), due ? 1 : 0, x -> x.matchingSize('a', 'b'));
        answers(records + ": size by layers", counted(records), due ? 1 : 0, x -> x.matchingSizeByLayers('a', 'b'));
    }

    private static void sharedKeys() {
        shared("a10=50 b11=50", true);
        shared("a10=50 b11=50 a11=99", false);
        shared("a10=50 b11=50 b10=99", false);
        shared("a10=50 b11=50 a11=99 b10=1", false);
        shared("a10=50 b11=50 c10=50 c11=50", true);
        shared("a10=50 b11=50 a12=1 b9=99", true);
        answers("the same key", counted("a10=50 b10=50"), false, x -> x.isPossiblePair('a', 10, 'b', 10));
        Scene shared = counted("a10=50 b11=50 a11=99");
        answers("until it is dropped", shared.then(x -> x.drop('a', 11)), true, x -> x.isPossiblePair('a', 10, 'b', 11));
        answers("and again once that is undone", shared.then(x -> x.drop('a', 11)).then(RecordReconciler::undo), false,
                x -> x.isPossiblePair('a', 10, 'b', 11));
        for (int amount = 1; amount <= 6; amount++) {
            answers("a record of a third source alone is no partner", counted("a10=" + amount + " c11=50 b12=90"), "0 0 0",
                    x -> x.possiblePairs('a', 'b') + " " + x.possiblePairs('b', 'a') + " " + x.matchingSize('a', 'b'));
        }
        answers("not in the open batch", counted("a10=50 b11=50").then(reported("a11=99 b10=99")), true,
                x -> x.isPossiblePair('a', 10, 'b', 11));
    }

    private static void isPossiblePair() {
        test(31, "Returns whether two counted records are a possible pair.", () -> {
            Scene scene = counted("a10=50 b20=55 c15=45");
            answers("a b", scene, true, x -> x.isPossiblePair('a', 10, 'b', 20));
            answers("a c", scene, true, x -> x.isPossiblePair('c', 15, 'a', 10));
            answers("b c", scene, false, x -> x.isPossiblePair('b', 20, 'c', 15));
            unchanged("asking", busy(scene), x -> x.isPossiblePair('b', 20, 'c', 15));
        });
        test(31, "Throws `NoSuchElementException` if there is no such counted record, for either", () -> {
            Scene scene = counted("a10=50 b20=50 c10=50 c20=50").then(reported("a20=50 b10=50"));
            neverThrows("both are there", scene, ELEMENT, x -> x.isPossiblePair('a', 10, 'b', 20));
            neverThrows("the same key", scene, ELEMENT, x -> x.isPossiblePair('a', 10, 'c', 10));
            refused("not the first", scene, ELEMENT, x -> x.isPossiblePair('a', 20, 'b', 20));
            refused("not the second", scene, ELEMENT, x -> x.isPossiblePair('a', 10, 'b', 10));
            refused("neither", scene, ELEMENT, x -> x.isPossiblePair('a', 20, 'b', 10));
            refused("key below", scene, ELEMENT, x -> x.isPossiblePair('a', 9, 'b', 20));
            refused("key above", scene, ELEMENT, x -> x.isPossiblePair('a', 11, 'b', 20));
            refused("other key below", scene, ELEMENT, x -> x.isPossiblePair('a', 10, 'b', 19));
            refused("other key above", scene, ELEMENT, x -> x.isPossiblePair('a', 10, 'b', 21));
            refused("none at all", EMPTY, ELEMENT, x -> x.isPossiblePair('a', 0, 'b', 999));
            refused("the first is dropped", scene.then(x -> x.drop('a', 10)), ELEMENT,
                    x -> x.isPossiblePair('a', 10, 'b', 20));
            refused("the second is dropped", scene.then(x -> x.drop('b', 20)), ELEMENT,
                    x -> x.isPossiblePair('a', 10, 'b', 20));
        });
    }

    private static void possiblePairs() {
        test(32, "Returns the number of possible pairs of two sources.", () -> {
            answers("no records", EMPTY, 0, x -> x.possiblePairs('a', 'b'));
            answers("only reported", reported("a1=1 b2=1"), 0, x -> x.possiblePairs('a', 'b'));
            answers("one source alone", THIRTY_KEYS, "0 0", x -> x.possiblePairs('a', 'b') + " " + x.possiblePairs('b', 'c'));
            answers("one", counted("a1=1 b2=1"), 1, x -> x.possiblePairs('b', 'a'));
            answers("all keys are shared", FULL, 0, x -> x.possiblePairs('a', 'b'));
            answers("all but one are shared", counted("a1=5 b1=5 a2=5 b2=5 a3=5"), 0, x -> x.possiblePairs('a', 'b'));
            answers("two that are not shared", counted("a1=5 b1=5 a2=5 b2=5 a3=5 b4=5"), 1, x -> x.possiblePairs('a', 'b'));
            answers("all with all", counted(Views.row('a', 0, 1, 10, 50), Views.row('b', 10, 1, 11, 55)), 110,
                    x -> x.possiblePairs('a', 'b'));
            answers("all with all but the first with the last", counted(Views.row('a', 0, 1, 10, 50),
                    Views.row('b', 10, 1, 12, 55)), 119, x -> x.possiblePairs('a', 'b'));
            answers("a chain of thirty", CHAIN, 29, x -> x.possiblePairs('a', 'b'));
            answers("a crowd of thirty", CROWD, 180, x -> x.possiblePairs('b', 'a'));
            unchanged("asking", busy(CROWD), x -> x.possiblePairs('b', 'a'));
        });
    }

    private static void size(String what, Scene scene, OfTwo call, int due) {
        answers(what, scene, due, x -> call.ask(x, 'a', 'b'));
        answers(what + ", other way round", scene, due, x -> call.ask(x, 'b', 'a'));
        answers(what + ", again and again", scene, due + " " + due + " " + due + " " + due, x -> call.ask(x, 'a', 'b') + " "
                + call.ask(x, 'a', 'b') + " " + call.ask(x, 'b', 'a') + " " + call.ask(x, 'b', 'a'));
    }

    private static void matching(int promise, OfTwo call) {
        String returns = promise == 33 ? "Returns the matching size of two sources, by augmenting a matching for one record "
                + "after the other." : "Returns the same number as matchingSize, but augments a matching in rounds, by "
                + "shortest paths that are found in layers.";
        test(promise, MATCHING, () -> {
            size("one for one", counted("a10=50 b11=50"), call, 1);
            size("two for one", counted("a10=50 b11=50 a12=50"), call, 1);
            size("two for two", counted("a10=50 b11=50 a12=50 b13=50"), call, 2);
            size("29 for one", counted(Views.row('a', 100, 1, 14, 50), "b114=50", Views.row('a', 115, 1, 15, 50)), call, 1);
            size("not with the same key", counted("a10=50 b10=50"), call, 0);
            size("not with the third source", counted("a10=50 c11=50 b100=50"), call, 0);
        });
        test(promise, GREATEST, () -> {
            size("the first one's choice is the only one of the second", counted("a9=50 a10=57 b11=54 b12=50"), call, 2);
            size("both want the first", counted("a19=50 b20=50 a0=50 b39=50"), call, 2);
            size("both want the last", counted("a20=50 b0=50 b21=50 a41=50"), call, 2);
            size("three of which two want one", counted("a10=50 a12=50 b11=50 a500=1 b501=1"), call, 2);
            size("a chain of thirty", CHAIN, call, 15);
            size("a chain of 29, ended by one source", CHAIN.then(x -> x.drop('b', 580)), call, 14);
            size("a chain of 28", CHAIN.then(x -> x.drop('b', 580)).then(x -> x.drop('a', 560)), call, 14);
            size("a chain in two", CHAIN.then(x -> x.drop('b', 300)), call, 14);
            size("a chain without its ends", CHAIN.then(x -> x.drop('b', 580)).then(x -> x.drop('a', 0)), call, 14);
            size("a crowd of thirty", CROWD, call, 15);
            size("a crowd of 29", CROWD.then(x -> x.drop('a', 7)), call, 14);
            size("the last one makes all others change", REORDERED, call, 7);
            size("chains of which each takes a round more", rounds(), call, 15);
            size("the last one can't make them change", REORDERED.then(x -> x.drop('b', 13)), call, 6);
            for (int seed = 0; seed < 150; seed++) {
                Scene scene = scattered(new Random(seed));
                size("scattered " + seed, scene, call, greatest(at(scene)));
            }
        });
        test(promise, returns, () -> {
            size("no records", EMPTY, call, 0);
            size("only reported", reported("a1=1 b2=1"), call, 0);
            size("one source alone", THIRTY_KEYS, call, 0);
            size("no possible pair", FULL, call, 0);
            size("ten of fifteen in reach", counted(Views.row('a', 0, 1, 15, 50), Views.row('b', 25, 1, 15, 50)), call, 10);
            for (int gap = 1; gap <= 22; gap++) {
                int pairs = Math.max(0, Math.min(6, 27 - 6 - gap));
                size("gap " + gap, counted(Views.row('a', 0, 1, 6, 50), Views.row('b', 5 + gap, 1, 6, 50)), call, pairs);
            }
            unchanged("asking", busy(CROWD), x -> call.ask(x, 'a', 'b'));
        });
    }

    /** Five chains like REORDERED, in which 0, 1, 2, 3 and 4 a's must change for the last one. */
    private static Scene rounds() {
        StringBuilder records = new StringBuilder();
        for (int length = 0; length < 5; length++) {
            for (int i = 0; i <= length; i++) {
                records.append(" a").append(100 * length + i).append('=').append(i < length ? 19 + 6 * i : 11);
                records.append(" b").append(100 * length + 7 + i).append('=').append(16 + 6 * i);
            }
        }
        return counted(records.substring(1));
    }

    /** 30 records of a and b with different keys, so that some have many possible pairs and some have few. */
    private static Scene scattered(Random random) {
        int gaps = 1 + random.nextInt(5);
        int amounts = 5 + random.nextInt(40);
        int others = 5 + random.nextInt(10);
        StringBuilder records = new StringBuilder();
        int key = 0;
        for (int i = 0; i < 30; i++) {
            char source = random.nextInt(30 - i) < others ? 'b' : 'a';
            others -= source == 'b' ? 1 : 0;
            key += 1 + random.nextInt(gaps);
            records.append(i > 0 ? " " : "").append(source).append(key).append('=').append(1 + random.nextInt(amounts));
        }
        return counted(records.toString());
    }

    /** Goes through all sets of b's, and finds those that can be matched with a's of the rows so far. */
    private static int greatest(RecordReconciler x) {
        boolean[] canBeMatched = new boolean[1 << x.recordsOf('b')];
        canBeMatched[0] = true;
        for (int i = 0; i < x.recordsOf('a'); i++) {
            int reach = reach(x, x.keyAt('a', i));
            for (int set = canBeMatched.length - 1; set > 0; set--) {
                for (int rest = set & reach; rest != 0 && !canBeMatched[set]; rest &= rest - 1) {
                    canBeMatched[set] = canBeMatched[set ^ rest & -rest];
                }
            }
        }
        int greatest = 0;
        for (int set = 0; set < canBeMatched.length; set++) {
            greatest = canBeMatched[set] ? Math.max(greatest, Integer.bitCount(set)) : greatest;
        }
        return greatest;
    }

    private static int reach(RecordReconciler x, int key) {
        int reach = 0;
        for (int i = 0; i < x.recordsOf('b'); i++) {
            reach |= x.isPossiblePair('a', key, 'b', x.keyAt('b', i)) ? 1 << i : 0;
        }
        return reach;
    }

    private static void needed(String what, Scene scene, String neededOfA, String neededOfB) {
        answers(what, scene, neededOfA + " " + neededOfB, x -> needed(x, 'a', 'b') + " " + needed(x, 'b', 'a'));
    }

    private static String needed(RecordReconciler x, char source, char other) {
        StringBuilder text = new StringBuilder();
        for (int i = 0; i < x.recordsOf(source); i++) {
            text.append(x.isNeeded(source, x.keyAt(source, i), other) ? 'y' : 'n');
        }
        return text.toString();
    }

    private static void isNeeded() {
        test(35, "Returns whether the matching size of two sources would be smaller without a counted record of the first "
                + "one, where nothing else differs.", () -> {
            needed("one for one", counted("a10=50 b11=50"), "y", "y");
            needed("no pair", counted("a10=50 b11=56"), "n", "n");
            needed("two for one", counted("a10=50 b11=50 a12=50"), "nn", "y");
            needed("two for two", counted("a10=50 b11=50 a12=50 b13=50"), "yy", "yy");
            needed("two for three", counted("a10=50 b11=50 a12=50 b13=50 b14=50"), "yy", "nnn");
            needed("one of two is the only one for the first", counted("a10=50 b11=55 a12=60 b13=60 b14=60"), "yy", "ynn");
            needed("the same key", counted("a10=50 b10=50"), "n", "n");
            needed("the same key beside a pair", counted("a10=50 b10=50 a11=50 b12=50"), "ny", "ny");
            needed("a shared key that parts a pair", counted("a10=50 b11=50 a11=99"), "nn", "n");
            needed("a chain of thirty", CHAIN, "yyyyyyyyyyyyyyy", "yyyyyyyyyyyyyyy");
            needed("a chain of 29", CHAIN.then(x -> x.drop('b', 580)), "nnnnnnnnnnnnnnn", "yyyyyyyyyyyyyy");
            needed("a crowd of 29", CROWD.then(x -> x.drop('a', 7)), "yyyyyyyyyyyyyy", "nnnnnnnnnnnnnnn");
            answers("the size is that of both sources alone", counted("a10=50 c11=50 b300=1"), "false true",
                    x -> x.isNeeded('a', 10, 'b') + " " + x.isNeeded('a', 10, 'c'));
            unchanged("asking", busy(CROWD), x -> x.isNeeded('a', 7, 'b'));
        });
    }

    private static void linked(int promise, Question call) {
        String returns = promise == 36 ? "Returns the number of groups, by uniting linked records."
                : "Returns the same number as groupCount, by searching from records that were not reached before.";
        test(promise, LINKED, () -> {
            answers("the same key", counted("a10=1 b10=99"), 1, call);
            answers("the same key, three times", counted("a10=1 b10=50 c10=99"), 1, call);
            answers("other keys and amounts", counted("a10=1 b11=99"), 2, call);
            answers("the ends of a possible pair", counted("a10=1 b30=6"), 1, call);
            answers("one key more", counted("a10=1 b31=6"), 2, call);
            answers("one amount more", counted("a10=1 b30=7"), 2, call);
            answers("of one source", counted("b10=1 b11=1"), 2, call);
            answers("parted by a shared key", counted("a10=1 b11=1 b10=50"), 2, call);
            answers("a third source does not part them", counted("a10=1 b11=1 c10=99"), 1, call);
        });
        test(promise, GROUP, () -> {
            answers("by way of one", counted("a10=50 b30=50 a50=50"), 1, call);
            answers("without it", counted("a10=50 b30=50 a50=50").then(x -> x.drop('b', 30)), 2, call);
            answers("by way of two, one of them of the same key", counted("a10=50 b30=54 c30=90 a50=90"), 1, call);
            answers("by way of twenty-eight", CHAIN, 1, call);
            answers("without one of them", CHAIN.then(x -> x.drop('a', 280)), 2, call);
            answers("without two of them", CHAIN.then(x -> x.drop('a', 280)).then(x -> x.drop('b', 300)), 2, call);
            answers("without two that are apart", CHAIN.then(x -> x.drop('a', 280)).then(x -> x.drop('b', 460)), 3, call);
            answers("the lowest key with the highest one, those between with each other", counted(
                    "a10=50 b12=90 c14=90 b30=50"), 2, call);
        });
        test(promise, returns, () -> {
            answers("no records", EMPTY, 0, call);
            answers("only reported", reported("a1=1"), 0, call);
            answers("one", counted("a1=1"), 1, call);
            answers("thirty of one source", THIRTY_KEYS, 30, call);
            answers("thirty, less one", THIRTY_KEYS.then(x -> x.drop('b', 29)), 29, call);
            answers("ten keys", FULL, 10, call);
            answers("one of thirty", CROWD, 1, call);
            answers("none any more", counted("a1=1").then(x -> x.drop('a', 1)), 0, call);
            unchanged("asking", busy(CROWD), call);
        });
    }

    private static void groupSize() {
        test(38, LINKED, () -> {
            answers("the same key", counted("a10=1 b10=99 c10=50"), 3, x -> x.groupSize('b', 10));
            answers("the ends of a possible pair", counted("a10=1 b30=6"), 2, x -> x.groupSize('a', 10));
            answers("one key more", counted("a10=1 b31=6"), 1, x -> x.groupSize('a', 10));
            answers("one amount more", counted("a10=1 b30=7"), 1, x -> x.groupSize('b', 30));
            answers("of one source", counted("b10=1 b11=1"), 1, x -> x.groupSize('b', 10));
        });
        test(38, GROUP, () -> {
            answers("all of thirty, from the first", CHAIN, 30, x -> x.groupSize('a', 0));
            answers("all of thirty, from the last", CHAIN, 30, x -> x.groupSize('b', 580));
            answers("before a gap", CHAIN.then(x -> x.drop('a', 280)), 14, x -> x.groupSize('a', 0));
            answers("behind a gap", CHAIN.then(x -> x.drop('a', 280)), 15, x -> x.groupSize('b', 580));
            answers("two keys of three records each are not linked", counted("a1=5 b1=5 c1=5 a2=5 b2=5 c2=5"), 3,
                    x -> x.groupSize('c', 2));
            answers("by way of a key", counted("a10=50 b30=54 c30=90 a50=90"), 4, x -> x.groupSize('a', 10));
        });
        test(38, "Returns the number of records in the group of a counted record.", () -> {
            answers("alone", counted("a1=1"), 1, x -> x.groupSize('a', 1));
            answers("alone among thirty", THIRTY_KEYS, 1, x -> x.groupSize('b', 29));
            answers("of thirty", CROWD, 30, x -> x.groupSize('a', 14));
            answers("not those of the open batch", counted("a1=1").then(reported("b1=1 b2=1")), 1,
                    x -> x.groupSize('a', 1));
            unchanged("asking", busy(CROWD), x -> x.groupSize('a', 14));
        });
    }

    private static String ofPairs(RecordReconciler x, OfTwo call) {
        StringBuilder text = new StringBuilder();
        for (String pair : "ab ba ac ca bc cb".split(" ")) {
            text.append(' ').append(call.ask(x, pair.charAt(0), pair.charAt(1)));
        }
        return text.toString();
    }

    private static String ofRecords(RecordReconciler x, OfRecord call) {
        StringBuilder text = new StringBuilder();
        for (char source : SOURCES) {
            for (int i = 0; i < x.recordsOf(source); i += 4) {
                text.append(' ').append(call.ask(x, source, x.keyAt(source, i)));
            }
        }
        return text.toString();
    }

    /** What was asked before, in this state or in another one, does not matter. */
    private static void askedBefore() {
        asked(32, "Returns the number of possible pairs of two sources.", x -> ofPairs(x, RecordReconciler::possiblePairs));
        asked(33, "Returns the matching size of two sources, by augmenting a matching for one record after the other.",
                x -> ofPairs(x, RecordReconciler::matchingSize));
        asked(34, "Returns the same number as matchingSize, but augments a matching in rounds, by shortest paths that are "
                + "found in layers.", x -> ofPairs(x, RecordReconciler::matchingSizeByLayers));
        asked(35, "Returns whether the matching size of two sources would be smaller without a counted record of the first "
                + "one, where nothing else differs.",
                x -> ofRecords(x, (y, source, key) -> y.isNeeded(source, key, source == 'b' ? 'a' : 'b')));
        asked(36, "Returns the number of groups, by uniting linked records.", RecordReconciler::groupCount);
        asked(37, "Returns the same number as groupCount, by searching from records that were not reached before.",
                RecordReconciler::groupCountBySearch);
        asked(38, "Returns the number of records in the group of a counted record.",
                x -> ofRecords(x, RecordReconciler::groupSize));
    }

    private static void asked(int promise, String sentence, Question question) {
        Scene ends = x -> {
            for (int key = 1; key < 29; key++) {
                x.drop(key < 15 ? 'a' : 'b', key);
            }
        };
        Scene everyFifth = x -> {
            for (int i = 2; i >= 0; i--) {
                x.drop('a', x.keyAt('a', 5 * i));
                x.drop('b', x.keyAt('b', 4 * i));
            }
        };
        Scene third = counted("c3=50 c12=52 c14=54 c580=50 c45=49");
        Scene fewer = everyFifth.then(third);
        test(promise, sentence, () -> {
            askedBetween("all but two dropped", CROWD, ends, question);
            askedBetween("that undone", CROWD.then(everyFifth), RecordReconciler::undo, question);
            askedBetween("other sources in a crowd", CROWD, fewer, question);
            askedBetween("other sources in a chain", CHAIN, fewer, question);
            askedBetween("other sources taken away", CHAIN.then(fewer), RecordReconciler::undo, question);
            askedBetween("nothing", REORDERED.then(third), EMPTY, question);
            askedBetween("an empty object restored", EMPTY.then(RecordReconciler::save).then(CROWD),
                    RecordReconciler::restore, question);
            askedBetween("the first records", EMPTY, REORDERED.then(third), question);
        });
    }

    private static void askedBetween(String what, Scene before, Scene change, Question question) {
        Scene asked = x -> {
            question.ask(x);
            ofPairs(x, RecordReconciler::matchingSize);
            ofPairs(x, RecordReconciler::matchingSizeByLayers);
            x.groupCount();
            x.groupCountBySearch();
            x.isConsistent();
        };
        same(what, outcome(before.then(asked).then(change), question), outcome(before.then(change), question));
        same(what + ", asked twice", outcome(before.then(change).then(asked), question), outcome(before.then(change), question));
    }
}
