import java.util.ArrayDeque;
import java.util.ArrayList;
import java.util.Deque;
import java.util.HashMap;
import java.util.List;
import java.util.Map;
import java.util.NoSuchElementException;
import java.util.TreeSet;
import java.util.regex.Matcher;
import java.util.regex.Pattern;

/**
 * The document once more, in the plainest way and by other means than the class: lists of records, a search through
 * all matchings, and a regular expression for the grammar. Its methods bear the names of the face.
 */
final class Model {
    record Report(char source, int key, int amount) {
    }

    record Counted(char source, int key, int amount, int day) {
    }

    static final class State {
        List<Report> batch = new ArrayList<>();
        List<Counted> records = new ArrayList<>();
        int[] trust = {5, 5, 5};
        int[] totals = new int[7];
        int day = 0;

        State copy() {
            State copy = new State();
            copy.batch = new ArrayList<>(batch);
            copy.records = new ArrayList<>(records);
            copy.trust = trust.clone();
            copy.totals = totals.clone();
            copy.day = day;
            return copy;
        }
    }

    private static final String COMMAND = "(?:report [abc]\\d{1,3}=\\d{1,2}|take [abc]\\d{1,3}=\\d{1,2}"
            + "|close|reject|settle [abc]\\d{1,3}|drop [abc]\\d{1,3}|days \\d{1,2})";
    private static final Pattern PROGRAM = Pattern.compile(COMMAND + "(?:;" + COMMAND + ")*");

    private State now = new State();
    private State saved = null;
    private final Deque<State> before = new ArrayDeque<>();
    private String line = "";
    private String buffer = "";
    private int error = -1;
    private int failed = -1;
    private boolean running = false;

    private static IllegalArgumentException argument() {
        return new IllegalArgumentException();
    }

    private static void needSource(char source) {
        if ("abc".indexOf(source) < 0) {
            throw argument();
        }
    }

    private static void need(int value, int from, int to) {
        if (value < from || value > to) {
            throw argument();
        }
    }

    private static void needTwo(char source, char other) {
        needSource(source);
        needSource(other);
        if (source == other) {
            throw argument();
        }
    }

    private Counted find(char source, int key) {
        for (Counted counted : now.records) {
            if (counted.source == source && counted.key == key) {
                return counted;
            }
        }
        return null;
    }

    private Counted get(char source, int key) {
        needSource(source);
        need(key, 0, 999);
        Counted counted = find(source, key);
        if (counted == null) {
            throw new NoSuchElementException();
        }
        return counted;
    }

    private List<Counted> ofKey(int key) {
        List<Counted> found = new ArrayList<>();
        for (char source : "abc".toCharArray()) {
            Counted counted = find(source, key);
            if (counted != null) {
                found.add(counted);
            }
        }
        return found;
    }

    private List<Counted> getKey(int key) {
        need(key, 0, 999);
        if (ofKey(key).isEmpty()) {
            throw new NoSuchElementException();
        }
        return ofKey(key);
    }

    private List<Counted> ofSource(char source) {
        needSource(source);
        List<Counted> found = new ArrayList<>();
        for (int key = 0; key <= 999; key++) {
            Counted counted = find(source, key);
            if (counted != null) {
                found.add(counted);
            }
        }
        return found;
    }

    private TreeSet<Integer> keys() {
        TreeSet<Integer> keys = new TreeSet<>();
        for (Counted counted : now.records) {
            keys.add(counted.key);
        }
        return keys;
    }

    private void replace(Counted old, int amount, int day) {
        now.records.set(now.records.indexOf(old), new Counted(old.source, old.key, amount, day));
    }

    /** To be called where a change is sure to return normally. */
    private void remember() {
        if (!running) {
            before.push(now.copy());
            if (before.size() > 8) {
                before.removeLast();
            }
        }
    }

    public int report(char source, int key, int amount) {
        needSource(source);
        need(key, 0, 999);
        need(amount, 1, 99);
        if (now.batch.size() == 12) {
            throw new IllegalStateException();
        }
        remember();
        now.batch.add(new Report(source, key, amount));
        return now.batch.size();
    }

    public int withdraw(char source, int key, int amount) {
        needSource(source);
        need(key, 0, 999);
        need(amount, 1, 99);
        int last = now.batch.lastIndexOf(new Report(source, key, amount));
        if (last < 0) {
            throw new NoSuchElementException();
        }
        remember();
        now.batch.remove(last);
        return now.batch.size();
    }

    /** Carries the batch out on a copy of the state; null if it does not fit. */
    private State closed(int limit, StringBuilder outcomes) {
        State kept = now;
        State next = now.copy();
        now = next;
        for (Report report : next.batch) {
            Counted counted = find(report.source, report.key);
            if (counted == null && next.records.size() >= limit) {
                now = kept;
                return null;
            }
            if (counted == null) {
                outcomes.append('n');
                next.records.add(new Counted(report.source, report.key, report.amount, next.day));
            } else if (counted.amount == report.amount) {
                outcomes.append('d');
            } else {
                outcomes.append('c');
                replace(counted, report.amount, next.day);
            }
        }
        now = kept;
        return next;
    }

    private static int count(CharSequence text, char letter) {
        return (int) text.chars().filter(character -> character == letter).count();
    }

    public int closeBatch() {
        StringBuilder outcomes = new StringBuilder();
        State next = closed(30, outcomes);
        if (next == null) {
            throw new IllegalStateException();
        }
        remember();
        now = next;
        now.totals[0] += count(outcomes, 'd');
        now.totals[1] += count(outcomes, 'c');
        now.totals[2] += count(outcomes, 'n');
        now.totals[4]++;
        now.batch.clear();
        now.day++;
        return count(outcomes, 'n');
    }

    public int rejectBatch() {
        remember();
        int size = now.batch.size();
        now.batch.clear();
        now.day++;
        now.totals[5]++;
        return size;
    }

    public int settle(char source, int key) {
        Counted settled = get(source, key);
        if (statusOf(key) != 'd') {
            throw new IllegalStateException();
        }
        remember();
        int changed = 0;
        now.trust[source - 'a'] = Math.min(9, now.trust[source - 'a'] + 1);
        for (Counted counted : ofKey(key)) {
            if (counted.amount != settled.amount) {
                replace(counted, settled.amount, counted.day);
                now.trust[counted.source - 'a'] = Math.max(0, now.trust[counted.source - 'a'] - 1);
                changed++;
            }
        }
        now.totals[6]++;
        return changed;
    }

    public int drop(char source, int key) {
        Counted counted = get(source, key);
        remember();
        now.records.remove(counted);
        now.totals[3]++;
        return now.records.size();
    }

    public int pass(int days) {
        need(days, 1, 99);
        remember();
        now.day += days;
        return now.day;
    }

    public int day() {
        return now.day;
    }

    public int reportCount() {
        return now.batch.size();
    }

    private Report reportAt(int position) {
        if (position < 0 || position >= now.batch.size()) {
            throw new IndexOutOfBoundsException();
        }
        return now.batch.get(position);
    }

    public char reportSource(int position) {
        return reportAt(position).source;
    }

    public int reportKey(int position) {
        return reportAt(position).key;
    }

    public int reportAmount(int position) {
        return reportAt(position).amount;
    }

    public char outcomeOf(int position) {
        reportAt(position);
        StringBuilder outcomes = new StringBuilder();
        closed(1000, outcomes);
        return outcomes.charAt(position);
    }

    public boolean canClose() {
        return closed(30, new StringBuilder()) != null;
    }

    public int recordCount() {
        return now.records.size();
    }

    public int recordsOf(char source) {
        return ofSource(source).size();
    }

    public boolean hasRecord(char source, int key) {
        needSource(source);
        need(key, 0, 999);
        return find(source, key) != null;
    }

    public int amountOf(char source, int key) {
        return get(source, key).amount;
    }

    public int dayOf(char source, int key) {
        return get(source, key).day;
    }

    public int keyAt(char source, int position) {
        List<Counted> found = ofSource(source);
        if (position < 0 || position >= found.size()) {
            throw new IndexOutOfBoundsException();
        }
        return found.get(position).key;
    }

    public int oldestKey(char source) {
        Counted oldest = null;
        for (Counted counted : ofSource(source)) {
            oldest = oldest == null || counted.day < oldest.day ? counted : oldest;
        }
        if (oldest == null) {
            throw new NoSuchElementException();
        }
        return oldest.key;
    }

    public char statusOf(int key) {
        List<Counted> found = getKey(key);
        for (Counted counted : found) {
            for (Counted other : found) {
                if (counted.amount != other.amount) {
                    return 'd';
                }
            }
        }
        return found.size() >= 2 ? 'c' : 'o';
    }

    private List<Integer> keysWith(char status) {
        List<Integer> found = new ArrayList<>();
        for (int key : keys()) {
            if (statusOf(key) == status) {
                found.add(key);
            }
        }
        return found;
    }

    public int confirmedCount() {
        return keysWith('c').size();
    }

    public int disputedCount() {
        return keysWith('d').size();
    }

    public int openCount() {
        return keysWith('o').size();
    }

    public int disputedAt(int position) {
        if (position < 0 || position >= disputedCount()) {
            throw new NoSuchElementException();
        }
        return keysWith('d').get(position);
    }

    public int acceptedAmount(int key) {
        List<Counted> found = getKey(key);
        int best = 0;
        long most = 0;
        for (int amount = 1; amount <= 99; amount++) {
            int wanted = amount;
            long votes = found.stream().filter(counted -> counted.amount == wanted).count();
            if (votes > most) {
                most = votes;
                best = amount;
            }
        }
        return best;
    }

    public int acceptedTotal() {
        return keys().stream().mapToInt(this::acceptedAmount).sum();
    }

    public int totalOf(char source) {
        return ofSource(source).stream().mapToInt(Counted::amount).sum();
    }

    private boolean possible(Counted one, Counted two) {
        return one.source != two.source && find(one.source, two.key) == null && find(two.source, one.key) == null
                && Math.abs(one.key - two.key) <= 20 && Math.abs(one.amount - two.amount) <= 5;
    }

    public boolean isPossiblePair(char source, int key, char other, int otherKey) {
        needTwo(source, other);
        need(key, 0, 999);
        need(otherKey, 0, 999);
        return possible(get(source, key), get(other, otherKey));
    }

    public int possiblePairs(char source, char other) {
        needTwo(source, other);
        int count = 0;
        for (Counted one : ofSource(source)) {
            for (Counted two : ofSource(other)) {
                count += possible(one, two) ? 1 : 0;
            }
        }
        return count;
    }

    private int best(List<Counted> ones, List<Counted> twos, int from, int used, Map<Long, Integer> known) {
        if (from == ones.size()) {
            return 0;
        }
        long place = (long) from << 32 | used;
        Integer answer = known.get(place);
        if (answer == null) {
            int best = best(ones, twos, from + 1, used, known);
            for (int i = 0; i < twos.size(); i++) {
                if ((used >> i & 1) == 0 && possible(ones.get(from), twos.get(i))) {
                    best = Math.max(best, 1 + best(ones, twos, from + 1, used | 1 << i, known));
                }
            }
            answer = best;
            known.put(place, answer);
        }
        return answer;
    }

    public int matchingSize(char source, char other) {
        needTwo(source, other);
        List<Counted> ones = ofSource(source);
        List<Counted> twos = ofSource(other);
        return ones.size() < twos.size() ? best(twos, ones, 0, 0, new HashMap<>())
                : best(ones, twos, 0, 0, new HashMap<>());
    }

    public int matchingSizeByLayers(char source, char other) {
        return matchingSize(source, other);
    }

    /** Takes the record away for a moment. */
    public boolean isNeeded(char source, int key, char other) {
        needTwo(source, other);
        Counted counted = get(source, key);
        int size = matchingSize(source, other);
        now.records.remove(counted);
        int without = matchingSize(source, other);
        now.records.add(counted);
        return without < size;
    }

    private List<Counted> group(Counted start) {
        List<Counted> group = new ArrayList<>(List.of(start));
        for (int i = 0; i < group.size(); i++) {
            for (Counted counted : now.records) {
                boolean linked = counted.key == group.get(i).key || possible(counted, group.get(i));
                if (linked && !group.contains(counted)) {
                    group.add(counted);
                }
            }
        }
        return group;
    }

    public int groupCount() {
        List<Counted> left = new ArrayList<>(now.records);
        int count = 0;
        while (!left.isEmpty()) {
            left.removeAll(group(left.get(0)));
            count++;
        }
        return count;
    }

    public int groupCountBySearch() {
        return groupCount();
    }

    public int groupSize(char source, int key) {
        return group(get(source, key)).size();
    }

    public int trustOf(char source) {
        needSource(source);
        return now.trust[source - 'a'];
    }

    public char mostTrusted() {
        int[] trust = now.trust;
        return trust[0] >= trust[1] && trust[0] >= trust[2] ? 'a' : trust[1] >= trust[2] ? 'b' : 'c';
    }

    public int duplicateTotal() {
        return now.totals[0];
    }

    public int correctionTotal() {
        return now.totals[1];
    }

    public int newTotal() {
        return now.totals[2];
    }

    public int droppedTotal() {
        return now.totals[3];
    }

    public int closedTotal() {
        return now.totals[4];
    }

    public int rejectedTotal() {
        return now.totals[5];
    }

    public int settledTotal() {
        return now.totals[6];
    }

    private void needRecords() {
        if (now.records.isEmpty()) {
            throw new ArithmeticException();
        }
    }

    public double meanAmount() {
        needRecords();
        return (double) now.records.stream().mapToInt(Counted::amount).sum() / now.records.size();
    }

    public float confirmedShare() {
        needRecords();
        return (float) confirmedCount() / keys().size();
    }

    public boolean isConsistent() {
        return true;
    }

    private int show(String text) {
        line = text;
        return text.length();
    }

    public int formatRecord(char source, int key) {
        Counted counted = get(source, key);
        return show(source + "" + key + "=" + counted.amount + " @" + counted.day);
    }

    public int formatKey(int key) {
        String text = "";
        for (Counted counted : getKey(key)) {
            text += " " + counted.source + counted.amount;
        }
        char status = statusOf(key);
        return show(key + ":" + text
                + (status == 'c' ? " confirmed" : status == 'o' ? " open" : " disputed ~" + acceptedAmount(key)));
    }

    public int formatBatch() {
        List<String> parts = new ArrayList<>();
        for (int i = 0; i < now.batch.size(); i++) {
            Report report = now.batch.get(i);
            parts.add(report.source + "" + report.key + "=" + report.amount + outcomeOf(i));
        }
        return show(String.join(" ", parts));
    }

    public char lineChar(int index) {
        if (index < 0 || index >= line.length()) {
            throw new IndexOutOfBoundsException();
        }
        return line.charAt(index);
    }

    public int append(char character) {
        need(character, ' ', '~');
        if (buffer.length() == 60) {
            throw new IllegalStateException();
        }
        buffer += character;
        return buffer.length();
    }

    /** Whether a text is a program or can become one: the matcher ran into its end, not into a wrong character. */
    private static boolean canGoOn(String text) {
        Matcher matcher = PROGRAM.matcher(text);
        return matcher.matches() || matcher.hitEnd();
    }

    public int run() {
        String text = buffer;
        buffer = "";
        if (!PROGRAM.matcher(text).matches()) {
            int length = 0;
            while (length < text.length() && canGoOn(text.substring(0, length + 1))) {
                length++;
            }
            error = length;
            throw argument();
        }
        State kept = now.copy();
        String[] commands = text.split(";");
        running = true;
        for (int i = 0; i < commands.length; i++) {
            try {
                execute(commands[i]);
            } catch (RuntimeException e) {
                running = false;
                failed = i;
                now = kept;
                throw new IllegalStateException();
            }
        }
        running = false;
        State after = now;
        now = kept;
        remember();
        now = after;
        return commands.length;
    }

    private void execute(String command) {
        String[] words = command.split("[ =]");
        char source = words.length > 1 ? words[1].charAt(0) : ' ';
        int number = words.length < 2 || words[0].equals("days") ? 0 : Integer.parseInt(words[1].substring(1));
        switch (words[0]) {
            case "report" -> report(source, number, Integer.parseInt(words[2]));
            case "take" -> withdraw(source, number, Integer.parseInt(words[2]));
            case "close" -> closeBatch();
            case "reject" -> rejectBatch();
            case "settle" -> settle(source, number);
            case "drop" -> drop(source, number);
            default -> pass(Integer.parseInt(words[1]));
        }
    }

    public int errorPosition() {
        if (error < 0) {
            throw new NoSuchElementException();
        }
        return error;
    }

    public int failedCommand() {
        if (failed < 0) {
            throw new NoSuchElementException();
        }
        return failed;
    }

    public int undoableCount() {
        return before.size();
    }

    public int undo() {
        if (before.isEmpty()) {
            throw new IllegalStateException();
        }
        now = before.pop();
        return before.size();
    }

    public int save() {
        saved = now.copy();
        return now.records.size();
    }

    public int restore() {
        if (saved == null) {
            throw new IllegalStateException();
        }
        now = saved.copy();
        before.clear();
        return now.records.size();
    }
}
