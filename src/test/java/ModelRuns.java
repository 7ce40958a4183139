import java.lang.reflect.InvocationTargetException;
import java.lang.reflect.Method;
import java.lang.reflect.Modifier;
import java.util.ArrayList;
import java.util.Comparator;
import java.util.List;
import java.util.Random;

/**
 * Random runs of 512 calls, on the class and on the model: each call has the same answer on both. The second
 * argument, if there is one, is the number of runs.
 */
public final class ModelRuns {
    private static final String[] CHANGES = {"report", "report", "report", "closeBatch", "closeBatch", "drop",
        "settle", "withdraw", "rejectBatch", "pass", "undo", "save", "restore"};
    private static final String[] COMMANDS = {"report ", "report ", "take ", "close", "close", "reject", "settle ",
        "drop ", "days "};
    private static final String[] BAD = {"", "repo", "clos", "drop", "a1", "close;", "days"};

    private final Random random;
    private final RecordReconciler real = new RecordReconciler();
    private final Model model = new Model();
    private final List<String> calls = new ArrayList<>();
    private final int keySpan;
    private final int amountSpan;
    private final int changeShare;
    private boolean wrong = false;

    private ModelRuns(int seed) {
        random = new Random(seed);
        keySpan = 2 + random.nextInt(random.nextBoolean() ? 12 : 150);
        amountSpan = 1 + random.nextInt(random.nextBoolean() ? 4 : 20);
        changeShare = 30 + random.nextInt(60);
    }

    public static void main(String[] args) throws ReflectiveOperationException {
        int runs = args.length > 1 ? Integer.parseInt(args[1]) : 400;
        List<Method> methods = new ArrayList<>(List.of(RecordReconciler.class.getDeclaredMethods()));
        methods.removeIf(method -> !Modifier.isPublic(method.getModifiers()));
        methods.sort(Comparator.comparing(Method::getName));
        for (int seed = 0; seed < runs; seed++) {
            ModelRuns run = new ModelRuns(seed);
            run.go(methods);
            Checks.same("run " + seed, run.wrong, false);
        }
        Checks.finish("ModelRuns");
    }

    private void go(List<Method> methods) throws ReflectiveOperationException {
        while (calls.size() < 512 && !wrong) {
            int dice = random.nextInt(100);
            if (dice < 6) {
                typeProgram(methods);
            } else if (dice < changeShare) {
                call(named(methods, CHANGES[random.nextInt(CHANGES.length)]), null);
            } else {
                Method method = methods.get(random.nextInt(methods.size()));
                boolean seldom = method.getName().equals("append") || method.getName().equals("restore");
                if (!seldom || random.nextInt(5) == 0) {
                    call(method, null);
                }
            }
        }
    }

    private static Method named(List<Method> methods, String name) {
        return methods.stream().filter(method -> method.getName().equals(name)).findFirst().get();
    }

    private void typeProgram(List<Method> methods) throws ReflectiveOperationException {
        StringBuilder text = new StringBuilder(command());
        for (int i = random.nextInt(5); i > 0; i--) {
            text.append(';').append(command());
        }
        if (random.nextInt(3) == 0 && text.length() > 0) {
            int place = random.nextInt(text.length());
            switch (random.nextInt(3)) {
                case 0 -> text.setLength(place);
                case 1 -> text.deleteCharAt(place);
                default -> text.setCharAt(place, "abcd019=; repo".charAt(random.nextInt(14)));
            }
        }
        for (int i = 0; i < text.length() && i < 60 && !wrong; i++) {
            call(named(methods, "append"), text.charAt(i));
        }
        if (!wrong) {
            call(named(methods, "run"), null);
        }
    }

    private String command() {
        if (random.nextInt(30) == 0) {
            return BAD[random.nextInt(BAD.length)];
        }
        String keyword = COMMANDS[random.nextInt(COMMANDS.length)];
        String record = "" + (char) ('a' + random.nextInt(3)) + random.nextInt(keySpan);
        String amount = "" + (random.nextInt(20) == 0 ? 0 : 40 + random.nextInt(amountSpan));
        return switch (keyword) {
            case "report ", "take " -> keyword + record + "=" + amount;
            case "settle ", "drop " -> keyword + record;
            case "days " -> keyword + amount;
            default -> keyword;
        };
    }

    private void call(Method method, Character typed) throws ReflectiveOperationException {
        Object[] values = new Object[method.getParameterCount()];
        for (int i = 0; i < values.length; i++) {
            boolean isChar = method.getParameterTypes()[i] == char.class;
            values[i] = isChar ? (Object) (typed != null ? typed : source()) : (Object) number(method.getName(), i);
        }
        String due = answer(Model.class.getMethod(method.getName(), method.getParameterTypes()), model, values);
        String got = answer(method, real, values);
        calls.add(method.getName() + List.of(values) + " " + got);
        if (!got.equals(due)) {
            wrong = true;
            System.out.println(String.join("\n", calls));
            System.out.println("due is " + due);
        }
    }

    private char source() {
        return random.nextInt(40) == 0 ? "d`A ~\u007f".charAt(random.nextInt(6)) : (char) ('a' + random.nextInt(3));
    }

    private int number(String name, int place) {
        if (random.nextInt(40) == 0) {
            return new int[] {-1, 0, 99, 100, 999, 1000, Integer.MIN_VALUE, Integer.MAX_VALUE}[random.nextInt(8)];
        }
        switch (name) {
            case "reportSource": case "reportKey": case "reportAmount": case "outcomeOf": case "disputedAt":
            case "keyAt":
                return random.nextInt(8);
            case "lineChar":
                return random.nextInt(40);
            case "pass":
                return 1 + random.nextInt(99);
            case "report": case "withdraw":
                return place == 2 ? 40 + random.nextInt(amountSpan) : random.nextInt(keySpan);
            default:
                return random.nextInt(keySpan);
        }
    }

    private static String answer(Method method, Object on, Object[] values) throws IllegalAccessException {
        try {
            return String.valueOf(method.invoke(on, values));
        } catch (InvocationTargetException e) {
            return "throws " + e.getCause().getClass().getSimpleName();
        }
    }
}
