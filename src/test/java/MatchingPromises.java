import java.util.NoSuchElementException;

/** Promises 31 to 38: possible pairs, matchings and groups. */
public final class MatchingPromises {
    private static final Class<IllegalArgumentException> ARGUMENT = IllegalArgumentException.class;
    private static final Class<NoSuchElementException> ELEMENT = NoSuchElementException.class;

    public static void main(String[] args) {
        promise31IsPossiblePair();
        promise31WrongArguments();
        promise32PossiblePairs();
        promises33And34MatchingSize();
        promises33And34ChainsThatMustBeReordered();
        promises32To34WrongArguments();
        promise35IsNeeded();
        promises36And37GroupCount();
        promise38GroupSize();
        Checks.finish("MatchingPromises");
    }

    private static void promise31IsPossiblePair() {
        RecordReconciler x = Views.with("a100=50 b120=55 c80=45 b121=50 c79=50 b99=56 c101=44 b90=50 c90=50");
        Checks.same("31 20 and 5 above", x.isPossiblePair('a', 100, 'b', 120), true);
        Checks.same("31 the other way round", x.isPossiblePair('b', 120, 'a', 100), true);
        Checks.same("31 20 and 5 below", x.isPossiblePair('a', 100, 'c', 80), true);
        Checks.same("31 key 21 above", x.isPossiblePair('a', 100, 'b', 121), false);
        Checks.same("31 key 21 below", x.isPossiblePair('a', 100, 'c', 79), false);
        Checks.same("31 amount 6 above", x.isPossiblePair('a', 100, 'b', 99), false);
        Checks.same("31 amount 6 below", x.isPossiblePair('c', 101, 'a', 100), false);
        Checks.same("31 the same key", x.isPossiblePair('b', 90, 'c', 90), false);
        RecordReconciler y = Views.with("a10=50 b12=50 b20=50 a22=50 c12=50");
        Checks.same("31 no shared key", y.isPossiblePair('a', 10, 'b', 12), true);
        Views.count(y, "a12=1");
        Checks.same("31 the first source has the second's key", y.isPossiblePair('a', 10, 'b', 12), false);
        Checks.same("31 the other way round", y.isPossiblePair('b', 12, 'a', 10), false);
        Checks.same("31 other keys are as before", y.isPossiblePair('a', 10, 'b', 20), true);
        Views.count(y, "b22=1");
        Checks.same("31 the second source has the first's key", y.isPossiblePair('a', 22, 'b', 20), false);
        Checks.same("31 the third source does not matter", y.isPossiblePair('b', 20, 'c', 12), false);
        y.drop('b', 12);
        Checks.same("31 after a drop", y.isPossiblePair('b', 20, 'c', 12), true);
    }

    private static void promise31WrongArguments() {
        RecordReconciler x = Views.with("a1=5 b2=5");
        Checks.refused("31 source", x, ARGUMENT, () -> x.isPossiblePair('d', 1, 'b', 2));
        Checks.refused("31 other", x, ARGUMENT, () -> x.isPossiblePair('a', 1, 'd', 2));
        Checks.refused("31 the same source", x, ARGUMENT, () -> x.isPossiblePair('a', 1, 'a', 1));
        Checks.refused("31 key below", x, ARGUMENT, () -> x.isPossiblePair('a', -1, 'b', 2));
        Checks.refused("31 key above", x, ARGUMENT, () -> x.isPossiblePair('a', 1000, 'b', 2));
        Checks.refused("31 other key below", x, ARGUMENT, () -> x.isPossiblePair('a', 1, 'b', -1));
        Checks.refused("31 other key above", x, ARGUMENT, () -> x.isPossiblePair('a', 1, 'b', 1000));
        Checks.refused("31 no record", x, ELEMENT, () -> x.isPossiblePair('a', 2, 'b', 2));
        Checks.refused("31 no other record", x, ELEMENT, () -> x.isPossiblePair('a', 1, 'b', 1));
        Checks.refused("31 no record, other key wrong", x, ARGUMENT, () -> x.isPossiblePair('a', 2, 'b', 1000));
        Checks.refused("31 no record, other wrong", x, ARGUMENT, () -> x.isPossiblePair('a', 2, 'd', 1));
        Checks.refused("31 no record, same source", x, ARGUMENT, () -> x.isPossiblePair('c', 2, 'c', 1));
    }

    private static void promise32PossiblePairs() {
        RecordReconciler x = Views.with("a5=50 b6=50 a7=50 b9=52 a30=50 c6=50");
        Checks.same("32 a b", x.possiblePairs('a', 'b'), 4);
        Checks.same("32 b a", x.possiblePairs('b', 'a'), 4);
        Checks.same("32 b c", x.possiblePairs('b', 'c'), 0);
        Checks.same("32 a c", x.possiblePairs('a', 'c'), 2);
        Checks.same("32 none", new RecordReconciler().possiblePairs('a', 'b'), 0);
        Checks.same("32 none with a third source", Views.with("a1=3 c2=50 c3=3").possiblePairs('a', 'b'), 0);
        RecordReconciler most = Views.with(Views.row('a', 0, 1, 10, 50) + " " + Views.row('c', 10, 1, 10, 55));
        Checks.same("32 all with all", most.possiblePairs('a', 'c'), 100);
        RecordReconciler halves = Views.with(Views.row('a', 0, 1, 15, 50) + " " + Views.row('b', 15, 1, 15, 50));
        Checks.same("32 of 30 records", halves.possiblePairs('a', 'b'), 225 - 36 - 9);
    }

    private static void bothSizes(String what, RecordReconciler x, char source, char other, int due) {
        Checks.same("33 " + what, x.matchingSize(source, other), due);
        Checks.same("33 " + what + ", other way round", x.matchingSize(other, source), due);
        Checks.same("34 " + what, x.matchingSizeByLayers(source, other), due);
        Checks.same("34 " + what + ", other way round", x.matchingSizeByLayers(other, source), due);
    }

    private static void promises33And34MatchingSize() {
        bothSizes("none", new RecordReconciler(), 'a', 'b', 0);
        RecordReconciler x = Views.with("a5=50 b6=50 a7=50 b9=52 a30=50 c6=50");
        bothSizes("a b", x, 'a', 'b', 2);
        bothSizes("b c", x, 'b', 'c', 0);
        bothSizes("a c", x, 'a', 'c', 1);
        RecordReconciler halves = Views.with(Views.row('a', 0, 1, 15, 50) + " " + Views.row('b', 15, 1, 15, 50));
        bothSizes("of 30 records", halves, 'a', 'b', 15);
        RecordReconciler many = Views.with(Views.row('a', 0, 1, 20, 50) + " " + Views.row('c', 20, 1, 3, 50));
        bothSizes("three for twenty", many, 'a', 'c', 3);
    }

    /** Taking the first free record each time would leave records over: a, b and a of a chain, and so on. */
    private static void promises33And34ChainsThatMustBeReordered() {
        RecordReconciler shortChain = Views.with("a20=50 b10=50 a0=46 b39=54 a21=49");
        bothSizes("short chain", shortChain, 'a', 'b', 2);
        // a(2i) goes with b(2i+1) and b(2i-1) alone: the amounts are 6 apart otherwise.
        StringBuilder chain = new StringBuilder();
        for (int i = 0; i < 15; i++) {
            chain.append(i > 0 ? " " : "").append("a").append(500 - 18 * i).append("=").append(50 + i % 2);
            chain.append(" b").append(500 - 18 * i - 9).append("=").append(50);
        }
        bothSizes("long chain", Views.with(chain.toString()), 'a', 'b', 15);
        reorderedToTheEnd();
        deadEnds();
        RecordReconciler star = Views.with("a50=50 b40=50 b41=50 b42=50 b43=50 a60=50 a70=70 b71=70");
        bothSizes("stars", star, 'a', 'b', 3);
    }

    /**
     * a0 to a5 go with two b's each and take the lower one first; a6 goes with the lowest b alone, so that all of
     * them must change. In the other direction the last b makes all of them change.
     */
    private static void reorderedToTheEnd() {
        StringBuilder records = new StringBuilder("a6=11");
        for (int i = 0; i < 6; i++) {
            records.append(" a").append(i).append("=").append(19 + 6 * i);
        }
        for (int i = 0; i < 7; i++) {
            records.append(" b").append(7 + i).append("=").append(16 + 6 * i);
        }
        RecordReconciler x = Views.with(records.toString());
        Checks.same("32 two for each but one", x.possiblePairs('a', 'b'), 13);
        bothSizes("all must change", x, 'a', 'b', 7);
        for (int i = 0; i < 7; i++) {
            Checks.same("35 all are needed", x.isNeeded('a', i, 'b') && x.isNeeded('b', 7 + i, 'a'), true);
        }
        x.drop('b', 10);
        bothSizes("the chain in two", x, 'a', 'b', 6);
        Checks.same("35 on the side with too many", x.isNeeded('a', 0, 'b') || x.isNeeded('a', 6, 'b'), false);
        Checks.same("35 on the side with too few", x.isNeeded('b', 7, 'a') && x.isNeeded('b', 9, 'a'), true);
    }

    /** a3 and a4 both want the place of a0; the search from the second one runs through all chains in vain. */
    private static void deadEnds() {
        RecordReconciler x = Views.with("a0=19 a1=25 a2=25 a3=11 a4=11 b10=16 b11=22 b12=28 b13=22");
        bothSizes("dead ends", x, 'a', 'b', 4);
        Checks.same("35 of two for one place", x.isNeeded('a', 3, 'b') || x.isNeeded('a', 4, 'b'), false);
        Checks.same("35 the place", x.isNeeded('b', 10, 'a'), true);
        x.drop('b', 13);
        bothSizes("more dead ends", x, 'a', 'b', 3);
        x.drop('b', 10);
        bothSizes("without the place", x, 'a', 'b', 2);
    }

    private static void promises32To34WrongArguments() {
        RecordReconciler x = Views.with("a1=5 b2=5");
        for (String pair : "aa bb cc ad da dd Ab".split(" ")) {
            char source = pair.charAt(0);
            char other = pair.charAt(1);
            Checks.refused("32 " + pair, x, ARGUMENT, () -> x.possiblePairs(source, other));
            Checks.refused("33 " + pair, x, ARGUMENT, () -> x.matchingSize(source, other));
            Checks.refused("34 " + pair, x, ARGUMENT, () -> x.matchingSizeByLayers(source, other));
            Checks.refused("35 " + pair, x, ARGUMENT, () -> x.isNeeded(source, 1, other));
        }
    }

    private static void promise35IsNeeded() {
        RecordReconciler x = Views.with("a10=50 b12=50 a14=50 c300=1 a400=9 b400=9");
        Checks.same("35 one of two for one", x.isNeeded('a', 10, 'b'), false);
        Checks.same("35 the other of two", x.isNeeded('a', 14, 'b'), false);
        Checks.same("35 the one for two", x.isNeeded('b', 12, 'a'), true);
        Checks.same("35 without a pair", x.isNeeded('c', 300, 'a'), false);
        Checks.same("35 a shared key", x.isNeeded('a', 400, 'b'), false);
        Checks.same("35 another source", x.isNeeded('b', 12, 'c'), false);
        Checks.same("35 asking changes nothing", x.matchingSize('a', 'b'), 1);
        Views.count(x, "b11=50");
        Checks.same("35 two for two", x.isNeeded('a', 10, 'b') && x.isNeeded('a', 14, 'b')
                && x.isNeeded('b', 11, 'a') && x.isNeeded('b', 12, 'a'), true);
        Checks.refused("35 key below", x, ARGUMENT, () -> x.isNeeded('a', -1, 'b'));
        Checks.refused("35 key above", x, ARGUMENT, () -> x.isNeeded('a', 1000, 'b'));
        Checks.refused("35 no record", x, ELEMENT, () -> x.isNeeded('a', 11, 'b'));
        Checks.refused("35 no record and the same source", x, ARGUMENT, () -> x.isNeeded('a', 11, 'a'));
        Checks.refused("35 no record and no other source", x, ARGUMENT, () -> x.isNeeded('a', 11, 'd'));
    }

    private static void bothCounts(String what, RecordReconciler x, int due) {
        Checks.same("36 " + what, x.groupCount(), due);
        Checks.same("37 " + what, x.groupCountBySearch(), due);
    }

    private static void promises36And37GroupCount() {
        bothCounts("none", new RecordReconciler(), 0);
        bothCounts("one", Views.with("a1=1"), 1);
        bothCounts("a source alone links nothing", Views.with("a1=1 a2=1 a3=1"), 3);
        bothCounts("the same key links, whatever the amounts", Views.with("a1=1 b1=99 c1=50"), 1);
        bothCounts("a possible pair links", Views.with("a1=1 b21=6"), 1);
        bothCounts("no possible pair", Views.with("a1=1 b22=6 c3=12"), 3);
        bothCounts("by way of others", Views.with("a1=50 b15=50 c30=50 a45=50 b300=1 c300=2"), 2);
        bothCounts("by way of a key", Views.with("a1=50 b15=54 c15=90 a30=90"), 1);
        RecordReconciler x = Views.with("a10=50 b20=50");
        bothCounts("linked", x, 1);
        Views.count(x, "a20=99");
        bothCounts("a shared key parts a pair", x, 2);
        bothCounts("thirty groups", Views.with(Views.row('a', 0, 30, 30, 5)), 30);
        bothCounts("ten groups", Views.full(), 10);
        bothCounts("one of thirty",
                Views.with(Views.row('a', 0, 20, 15, 50) + " " + Views.row('b', 10, 20, 15, 50)), 1);
    }

    private static void promise38GroupSize() {
        Checks.same("37 asked first", Views.with("a1=50 b15=50 c90=50").groupCountBySearch(), 2);
        Checks.same("38 asked first", Views.with("a1=50 b15=50 c90=50").groupSize('b', 15), 2);
        RecordReconciler x = Views.with("a1=50 b15=50 c30=50 a45=50 b300=1 c300=2 a999=1");
        Checks.same("38 four", x.groupSize('a', 1), 4);
        Checks.same("38 four from within", x.groupSize('c', 30), 4);
        Checks.same("38 two of one key", x.groupSize('b', 300), 2);
        Checks.same("38 alone", x.groupSize('a', 999), 1);
        Checks.same("38 thirty", Views.with(Views.row('a', 0, 20, 15, 50) + " " + Views.row('b', 10, 20, 15, 50))
                .groupSize('b', 290), 30);
        Checks.refused("38 source", x, ARGUMENT, () -> x.groupSize('d', 1));
        Checks.refused("38 key below", x, ARGUMENT, () -> x.groupSize('a', -1));
        Checks.refused("38 key above", x, ARGUMENT, () -> x.groupSize('a', 1000));
        Checks.refused("38 no record", x, ELEMENT, () -> x.groupSize('a', 300));
        Checks.refused("38 no key", x, ELEMENT, () -> x.groupSize('a', 2));
    }
}
