import java.util.List;
import java.util.NoSuchElementException;

/** What the tests of boundary sentences share. A scene is played on a new object each time it is looked at. */
abstract class Boundary {
    static final Class<IllegalArgumentException> ARGUMENT = IllegalArgumentException.class;
    static final Class<NoSuchElementException> ELEMENT = NoSuchElementException.class;
    static final Class<IllegalStateException> STATE = IllegalStateException.class;
    static final Class<IndexOutOfBoundsException> INDEX = IndexOutOfBoundsException.class;
    static final Class<ArithmeticException> ARITHMETIC = ArithmeticException.class;

    static final List<String> DOCUMENTED = List.of("throws IllegalArgumentException", "throws NoSuchElementException",
            "throws IllegalStateException", "throws IndexOutOfBoundsException", "throws ArithmeticException");

    static final char[] SOURCES = {'a', 'b', 'c'};
    static final char[] NO_SOURCES = {'`', 'd', 'A', 'B', 'C', ' ', 0, 'a' + 256, 'c' + 256, 65535};
    static final int[] KEYS = {0, 1, 998, 999};
    static final int[] NO_KEYS = {-1, 1000, -999, 65536, Integer.MIN_VALUE, Integer.MAX_VALUE};
    static final int[] AMOUNTS = {1, 2, 98, 99};
    static final int[] NO_AMOUNTS = {0, 100, -1, 257, Integer.MIN_VALUE, Integer.MAX_VALUE};

    /** Calls that bring a new object into a state. */
    interface Scene {
        void play(RecordReconciler x);

        default Scene then(Scene next) {
            return x -> {
                play(x);
                next.play(x);
            };
        }
    }

    /** A call that is looked at. */
    interface Question {
        Object ask(RecordReconciler x);
    }

    interface OfSource {
        Object ask(RecordReconciler x, char source);
    }

    /** A call about a key or a position. */
    interface OfNumber {
        Object ask(RecordReconciler x, int number);
    }

    interface OfRecord {
        Object ask(RecordReconciler x, char source, int key);
    }

    interface OfTwo {
        Object ask(RecordReconciler x, char source, char other);
    }

    static final Scene EMPTY = x -> { };
    static final Scene FULL = counted(Views.row('a', 0, 30, 10, 10), Views.row('b', 0, 30, 10, 20),
            Views.row('c', 0, 30, 10, 30));

    /** Each text is a batch, or more of them if it has more than 12 records. */
    static Scene counted(String... batches) {
        return x -> {
            for (String batch : batches) {
                Views.count(x, batch);
            }
        };
    }

    static Scene reported(String reports) {
        return x -> {
            for (String report : reports.split(" ")) {
                Views.report(x, report);
            }
        };
    }

    static Scene typed(String text) {
        return x -> Views.type(x, text);
    }

    /** Types a program and runs it, however that ends. */
    static Scene ran(String program) {
        return x -> {
            Views.type(x, program);
            Checks.outcome(x::run);
        };
    }

    static Scene repeated(int times, Scene scene) {
        return x -> {
            for (int i = 0; i < times; i++) {
                scene.play(x);
            }
        };
    }

    /** The scene in an object that has a saved copy, a line, a buffer, both indices, and something to undo. */
    static Scene busy(Scene scene) {
        Scene before = reported("c900=9").then(x -> {
            x.formatBatch();
            x.save();
            x.withdraw('c', 900, 9);
            x.pass(1);
            x.pass(2);
            x.undo();
        });
        return before.then(ran("dx")).then(ran("close;days 0")).then(scene).then(typed("days 7;close"));
    }

    static RecordReconciler at(Scene scene) {
        RecordReconciler x = new RecordReconciler();
        scene.play(x);
        return x;
    }

    /** All that one can get to know of an object: also what is in the buffer, the changes, and the saved copy. */
    static String whole(Scene scene) {
        return Views.all(at(scene)) + "\nbuffer " + places(at(scene)) + ran(at(scene))
                + "\nundone " + undone(at(scene)) + "\nrestored " + restored(at(scene));
    }

    private static int places(RecordReconciler x) {
        int places = 0;
        while (places < 100 && !Checks.outcome(() -> x.append('x')).startsWith("throws")) {
            places++;
        }
        return places;
    }

    private static String ran(RecordReconciler x) {
        return " ran " + Checks.outcome(x::run) + " " + Views.all(x);
    }

    private static String undone(RecordReconciler x) {
        StringBuilder text = new StringBuilder();
        for (int i = 0; i < 20 && x.undoableCount() > 0; i++) {
            text.append("\n  ").append(x.undo()).append(' ').append(Views.all(x));
        }
        return text.toString();
    }

    private static String restored(RecordReconciler x) {
        return Checks.outcome(x::restore) + " " + Views.all(x);
    }

    static void test(int promise, String sentence, Runnable checks) {
        Sentences.test(promise, sentence, checks);
    }

    static void plain(int promise, String... sentences) {
        Sentences.plain(promise, sentences);
    }

    static void same(String what, Object got, Object due) {
        Checks.same(Sentences.label(what), got, due);
    }

    static String outcome(Scene scene, Question question) {
        RecordReconciler x = at(scene);
        return Checks.outcome(() -> question.ask(x));
    }

    static void answers(String what, Scene scene, Object due, Question question) {
        same(what, outcome(scene, question), String.valueOf(due));
    }

    /** The call answers, or throws another exception of the document: that one is the matter of another sentence. */
    static void neverThrows(String what, Scene scene, Class<? extends Exception> wrong, Question question) {
        String ended = outcome(scene, question);
        boolean answered = !ended.startsWith("throws ");
        boolean other = DOCUMENTED.contains(ended) && !ended.equals("throws " + wrong.getSimpleName());
        same(what + " does not throw " + wrong.getSimpleName() + ", but: " + ended, answered || other, true);
    }

    /** The call throws just this exception, in a busy object too, and leaves everything as it was. */
    static void refused(String what, Scene scene, Class<? extends Exception> due, Question question) {
        refusedAsItIs(what, scene, due, question);
        refusedAsItIs(what + " (busy)", busy(scene), due, question);
    }

    static void refusedAsItIs(String what, Scene scene, Class<? extends Exception> due, Question question) {
        answers(what, scene, "throws " + due.getSimpleName(), question);
        unchanged(what, scene, question);
    }

    static void unchanged(String what, Scene scene, Question question) {
        Scene asked = scene.then(x -> Checks.outcome(() -> question.ask(x)));
        same(what + " leaves everything as it was", whole(asked), whole(scene));
    }

    /** The records beside the one that is not there, those of the open batch, and one that goes and comes back. */
    static void noRecord(int promise, OfRecord call) {
        test(promise, "Throws `NoSuchElementException` if there is no counted record of this source with this key", () -> {
            Scene scene = counted("a16=1 b16=2 a17=40 c17=41 a18=3 b18=4 c0=5 a0=6 c999=7 a999=8").then(reported("b17=9"));
            refused("between the sources and keys that are there", scene, ELEMENT, x -> call.ask(x, 'b', 17));
            refused("above them", scene, ELEMENT, x -> call.ask(x, 'b', 19));
            refused("below them", scene, ELEMENT, x -> call.ask(x, 'b', 15));
            refused("key 0 of other sources", scene, ELEMENT, x -> call.ask(x, 'b', 0));
            refused("key 999 of other sources", scene, ELEMENT, x -> call.ask(x, 'b', 999));
            refused("no records at all", EMPTY, ELEMENT, x -> call.ask(x, 'a', 17));
            for (String there : "b16 b18 a17 c17 c0 c999".split(" ")) {
                int key = Integer.parseInt(there.substring(1));
                neverThrows(there, scene, ELEMENT, x -> call.ask(x, there.charAt(0), key));
            }
            Scene closed = scene.then(RecordReconciler::closeBatch);
            Scene dropped = closed.then(x -> x.drop('b', 17));
            neverThrows("once it is counted", closed, ELEMENT, x -> call.ask(x, 'b', 17));
            refused("once it is dropped", dropped, ELEMENT, x -> call.ask(x, 'b', 17));
            neverThrows("once the drop is undone", dropped.then(RecordReconciler::undo), ELEMENT,
                    x -> call.ask(x, 'b', 17));
            refused("dropped with the last one of its key", scene.then(x -> x.drop('a', 17)).then(x -> x.drop('c', 17)),
                    ELEMENT, x -> call.ask(x, 'c', 17));
        });
    }

    /** The same for a key, whatever its sources are. */
    static void noKey(int promise, OfNumber call) {
        test(promise, "Throws `NoSuchElementException` if there is no counted record with this key", () -> {
            Scene scene = counted("a16=1 b18=2 a20=3 c20=4").then(reported("b17=9"));
            for (int key : new int[] {15, 17, 19, 21, 0, 999}) {
                refused("key " + key, scene, ELEMENT, x -> call.ask(x, key));
            }
            for (int key : new int[] {16, 18, 20}) {
                neverThrows("key " + key, scene, ELEMENT, x -> call.ask(x, key));
            }
            refused("no records at all", EMPTY, ELEMENT, x -> call.ask(x, 0));
            neverThrows("once it is counted", scene.then(RecordReconciler::closeBatch), ELEMENT, x -> call.ask(x, 17));
            Scene oneLess = scene.then(x -> x.drop('a', 20));
            neverThrows("one of two dropped", oneLess, ELEMENT, x -> call.ask(x, 20));
            refused("both dropped", oneLess.then(x -> x.drop('c', 20)), ELEMENT, x -> call.ask(x, 20));
            neverThrows("the second drop undone", oneLess.then(x -> x.drop('c', 20)).then(RecordReconciler::undo), ELEMENT,
                    x -> call.ask(x, 20));
        });
    }

    /** A position that there is in a scene is answered, and no other one. */
    static void positions(Scene scene, int number, Class<? extends Exception> wrong, OfNumber call) {
        for (int position : new int[] {Integer.MIN_VALUE, -2, -1, 0, 1, number - 1, number, number + 1, Integer.MAX_VALUE}) {
            String what = position + " of " + number;
            if (position >= 0 && position < number) {
                neverThrows(what, scene, wrong, x -> call.ask(x, position));
            } else {
                refused(what, scene, wrong, x -> call.ask(x, position));
            }
        }
    }
}
