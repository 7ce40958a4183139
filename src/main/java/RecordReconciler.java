import java.util.NoSuchElementException;

/** Reconciles counts that several sources report, as the numbered promises of DOC.md say. */
public final class RecordReconciler {
    private static final int SOURCES = 3;
    private static final int MAX_KEY = 999;
    private static final int MAX_AMOUNT = 99;
    private static final int MAX_DAYS = 99;
    private static final int MAX_RECORDS = 30;
    private static final int MAX_REPORTS = 12;
    private static final int MAX_CHANGES = 8;
    private static final int MAX_INPUT = 60;
    private static final int MAX_TRUST = 9;
    private static final int FIRST_TRUST = 5;
    private static final int KEY_REACH = 20;
    private static final int AMOUNT_REACH = 5;
    private static final int NONE = -1;

    private static final int REPORT = 0;
    private static final int TAKE = 1;
    private static final int CLOSE = 2;
    private static final int REJECT = 3;
    private static final int SETTLE = 4;
    private static final int DROP = 5;
    private static final int DAYS = 6;
    private static final int KINDS = 7;

    private static final int NO_FAULT = 0;
    private static final int BAD_ARGUMENT = 1;
    private static final int NO_ELEMENT = 2;
    private static final int BAD_STATE = 3;

    private static final int DUPLICATES = 0;
    private static final int CORRECTIONS = 1;
    private static final int NEW_RECORDS = 2;
    private static final int DROPPED = 3;
    private static final int CLOSED = 4;
    private static final int REJECTED = 5;
    private static final int SETTLED = 6;
    private static final int TOTALS = 7;

    private final Book book = new Book();
    private final Book beforeRun = new Book();
    private final Book saved = new Book();
    private final History history = new History();
    private final Program program = new Program();
    private final Matching matching = new Matching();
    private final Groups groups = new Groups();
    private final StringBuilder line = new StringBuilder();
    private boolean hasSaved = false;
    private int errorAt = NONE;
    private int failedAt = NONE;

    public RecordReconciler() {
    }

    // Changes

    public int report(char source, int key, int amount) throws IllegalArgumentException, IllegalStateException {
        return change(REPORT, source, key, amount);
    }

    public int withdraw(char source, int key, int amount) throws IllegalArgumentException, NoSuchElementException {
        return change(TAKE, source, key, amount);
    }

    public int closeBatch() throws IllegalStateException {
        return change(CLOSE, 'a', 0, 0);
    }

    public int rejectBatch() {
        return change(REJECT, 'a', 0, 0);
    }

    public int settle(char source, int key)
            throws IllegalArgumentException, NoSuchElementException, IllegalStateException {
        return change(SETTLE, source, key, 0);
    }

    public int drop(char source, int key) throws IllegalArgumentException, NoSuchElementException {
        return change(DROP, source, key, 0);
    }

    public int pass(int days) throws IllegalArgumentException {
        return change(DAYS, 'a', 0, days);
    }

    // The fault is looked for before the book is kept: a call that throws must not cost an older change.
    private int change(int kind, char source, int key, int amount) {
        refuse(book.faultOf(kind, source, key, amount));
        history.keep(book);
        return book.carryOut(kind, source, key, amount);
    }

    private static void refuse(int fault) {
        if (fault == BAD_ARGUMENT) {
            throw new IllegalArgumentException("no such source, or an argument is out of range");
        }
        if (fault == NO_ELEMENT) {
            throw new NoSuchElementException("no such report or record");
        }
        if (fault == BAD_STATE) {
            throw new IllegalStateException("the present state does not allow this");
        }
    }

    // The open batch

    public int day() {
        return book.today;
    }

    public int reportCount() {
        return book.batch.size;
    }

    public char reportSource(int position) throws IndexOutOfBoundsException {
        requireReport(position);
        return letterOf(book.batch.sources[position]);
    }

    public int reportKey(int position) throws IndexOutOfBoundsException {
        requireReport(position);
        return book.batch.keys[position];
    }

    public int reportAmount(int position) throws IndexOutOfBoundsException {
        requireReport(position);
        return book.batch.amounts[position];
    }

    public char outcomeOf(int position) throws IndexOutOfBoundsException {
        requireReport(position);
        return book.outcomeAt(position);
    }

    public boolean canClose() {
        return book.hasRoomForBatch();
    }

    // Counted records

    public int recordCount() {
        return book.table.records;
    }

    public int recordsOf(char source) throws IllegalArgumentException {
        return book.table.countOf(requireSource(source));
    }

    public boolean hasRecord(char source, int key) throws IllegalArgumentException {
        int index = requireSource(source);
        requireKey(key);
        return book.table.rowOfRecord(index, key) >= 0;
    }

    public int amountOf(char source, int key) throws IllegalArgumentException, NoSuchElementException {
        int row = requireRecord(source, key);
        return book.table.amounts[indexOf(source)][row];
    }

    public int dayOf(char source, int key) throws IllegalArgumentException, NoSuchElementException {
        int row = requireRecord(source, key);
        return book.table.days[indexOf(source)][row];
    }

    public int keyAt(char source, int position) throws IllegalArgumentException, IndexOutOfBoundsException {
        int row = book.table.rowAt(requireSource(source), position);
        if (row < 0) {
            throw new IndexOutOfBoundsException("no such position");
        }
        return book.table.keys[row];
    }

    public int oldestKey(char source) throws IllegalArgumentException, NoSuchElementException {
        int row = book.table.oldestRow(requireSource(source));
        if (row < 0) {
            throw new NoSuchElementException("the source has no counted record");
        }
        return book.table.keys[row];
    }

    // Agreement

    public char statusOf(int key) throws IllegalArgumentException, NoSuchElementException {
        return book.table.statusAt(requireRow(key));
    }

    public int confirmedCount() {
        return book.table.countWithStatus('c');
    }

    public int disputedCount() {
        return book.table.countWithStatus('d');
    }

    public int openCount() {
        return book.table.countWithStatus('o');
    }

    public int disputedAt(int position) throws NoSuchElementException {
        int row = book.table.disputedRow(position);
        if (row < 0) {
            throw new NoSuchElementException("no such position");
        }
        return book.table.keys[row];
    }

    public int acceptedAmount(int key) throws IllegalArgumentException, NoSuchElementException {
        return book.table.acceptedAt(requireRow(key));
    }

    public int acceptedTotal() {
        int sum = 0;
        for (int row = 0; row < book.table.rows; row++) {
            sum += book.table.acceptedAt(row);
        }
        return sum;
    }

    public int totalOf(char source) throws IllegalArgumentException {
        return book.table.sumOf(requireSource(source));
    }

    // Matching and groups

    public boolean isPossiblePair(char source, int key, char other, int otherKey)
            throws IllegalArgumentException, NoSuchElementException {
        int index = requireSource(source);
        int otherIndex = requireOther(source, other);
        requireKey(key);
        requireKey(otherKey);
        int row = requireRecord(source, key);
        int otherRow = requireRecord(other, otherKey);
        return book.table.isPossible(index, row, otherIndex, otherRow);
    }

    public int possiblePairs(char source, char other) throws IllegalArgumentException {
        int index = requireSource(source);
        matching.load(book.table, index, requireOther(source, other));
        return matching.pairCount();
    }

    public int matchingSize(char source, char other) throws IllegalArgumentException {
        int index = requireSource(source);
        return sizeOneByOne(index, requireOther(source, other));
    }

    public int matchingSizeByLayers(char source, char other) throws IllegalArgumentException {
        int index = requireSource(source);
        return sizeInRounds(index, requireOther(source, other));
    }

    public boolean isNeeded(char source, int key, char other)
            throws IllegalArgumentException, NoSuchElementException {
        int index = requireSource(source);
        int otherIndex = requireOther(source, other);
        int row = requireRecord(source, key);
        int size = sizeOneByOne(index, otherIndex);
        matching.load(book.table, index, otherIndex);
        matching.leaveOut(row);
        return matching.growOneByOne() < size;
    }

    private int sizeOneByOne(int source, int other) {
        matching.load(book.table, source, other);
        return matching.growOneByOne();
    }

    private int sizeInRounds(int source, int other) {
        matching.load(book.table, source, other);
        return matching.growInRounds();
    }

    public int groupCount() {
        groups.load(book.table);
        return groups.countByUniting();
    }

    public int groupCountBySearch() {
        groups.load(book.table);
        return groups.countBySearching();
    }

    public int groupSize(char source, int key) throws IllegalArgumentException, NoSuchElementException {
        int row = requireRecord(source, key);
        groups.load(book.table);
        return book.table.recordsIn(groups.reachedFrom(row));
    }

    // Trust and totals

    public int trustOf(char source) throws IllegalArgumentException {
        return book.trust[requireSource(source)];
    }

    public char mostTrusted() {
        int best = 0;
        for (int index = 1; index < SOURCES; index++) {
            if (book.trust[index] > book.trust[best]) {
                best = index;
            }
        }
        return letterOf(best);
    }

    public int duplicateTotal() {
        return book.totals[DUPLICATES];
    }

    public int correctionTotal() {
        return book.totals[CORRECTIONS];
    }

    public int newTotal() {
        return book.totals[NEW_RECORDS];
    }

    public int droppedTotal() {
        return book.totals[DROPPED];
    }

    public int closedTotal() {
        return book.totals[CLOSED];
    }

    public int rejectedTotal() {
        return book.totals[REJECTED];
    }

    public int settledTotal() {
        return book.totals[SETTLED];
    }

    public double meanAmount() throws ArithmeticException {
        int records = book.table.records;
        if (records == 0) {
            throw new ArithmeticException("no counted records");
        }
        int sum = 0;
        for (int index = 0; index < SOURCES; index++) {
            sum += book.table.sumOf(index);
        }
        return (double) sum / (double) records;
    }

    public float confirmedShare() throws ArithmeticException {
        int rows = book.table.rows;
        if (rows == 0) {
            throw new ArithmeticException("no counted records");
        }
        return (float) book.table.countWithStatus('c') / (float) rows;
    }

    public boolean isConsistent() {
        for (int source = 0; source < SOURCES; source++) {
            for (int other = source + 1; other < SOURCES; other++) {
                if (sizeOneByOne(source, other) != sizeInRounds(source, other)) {
                    return false;
                }
            }
        }
        groups.load(book.table);
        return groups.countByUniting() == groups.countBySearching()
                && book.table.records == book.totals[NEW_RECORDS] - book.totals[DROPPED];
    }

    // The line

    public int formatRecord(char source, int key) throws IllegalArgumentException, NoSuchElementException {
        int row = requireRecord(source, key);
        int index = indexOf(source);
        line.setLength(0);
        line.append(source).append(key).append('=').append(book.table.amounts[index][row]);
        line.append(" @").append(book.table.days[index][row]);
        return line.length();
    }

    public int formatKey(int key) throws IllegalArgumentException, NoSuchElementException {
        int row = requireRow(key);
        line.setLength(0);
        line.append(key).append(':');
        for (int index = 0; index < SOURCES; index++) {
            int amount = book.table.amounts[index][row];
            if (amount > 0) {
                line.append(' ').append(letterOf(index)).append(amount);
            }
        }
        char status = book.table.statusAt(row);
        if (status == 'c') {
            line.append(" confirmed");
        } else if (status == 'd') {
            line.append(" disputed ~").append(book.table.acceptedAt(row));
        } else {
            line.append(" open");
        }
        return line.length();
    }

    public int formatBatch() {
        Batch batch = book.batch;
        line.setLength(0);
        for (int position = 0; position < batch.size; position++) {
            if (position > 0) {
                line.append(' ');
            }
            line.append(letterOf(batch.sources[position])).append(batch.keys[position]);
            line.append('=').append(batch.amounts[position]).append(book.outcomeAt(position));
        }
        return line.length();
    }

    public char lineChar(int index) throws IndexOutOfBoundsException {
        if (index < 0 || index >= line.length()) {
            throw new IndexOutOfBoundsException("no such character in the line");
        }
        return line.charAt(index);
    }

    // Commands

    public int append(char character) throws IllegalArgumentException, IllegalStateException {
        if (character < ' ' || character > '~') {
            throw new IllegalArgumentException("the character cannot be typed");
        }
        if (program.length >= MAX_INPUT) {
            throw new IllegalStateException("the input buffer is full");
        }
        return program.add(character);
    }

    public int run() throws IllegalArgumentException, IllegalStateException {
        int error = program.parse();
        program.length = 0;
        if (error >= 0) {
            errorAt = error;
            throw new IllegalArgumentException("the program is malformed");
        }
        int failed = executeProgram();
        if (failed >= 0) {
            failedAt = failed;
            throw new IllegalStateException("a command failed");
        }
        return program.commands;
    }

    /** Returns the index of the command that failed, or NONE: then the whole run is one change. */
    private int executeProgram() {
        beforeRun.copyFrom(book);
        for (int i = 0; i < program.commands; i++) {
            int kind = program.kinds[i];
            char source = program.sources[i];
            int key = program.keys[i];
            int amount = program.amounts[i];
            if (book.faultOf(kind, source, key, amount) != NO_FAULT) {
                book.copyFrom(beforeRun);
                return i;
            }
            book.carryOut(kind, source, key, amount);
        }
        history.keep(beforeRun);
        return NONE;
    }

    public int errorPosition() throws NoSuchElementException {
        if (errorAt < 0) {
            throw new NoSuchElementException("no program was malformed so far");
        }
        return errorAt;
    }

    public int failedCommand() throws NoSuchElementException {
        if (failedAt < 0) {
            throw new NoSuchElementException("no command failed so far");
        }
        return failedAt;
    }

    // Undo and the saved copy

    public int undoableCount() {
        return history.size;
    }

    public int undo() throws IllegalStateException {
        if (history.size == 0) {
            throw new IllegalStateException("no change can be undone");
        }
        return history.takeBack(book);
    }

    public int save() {
        saved.copyFrom(book);
        hasSaved = true;
        return book.table.records;
    }

    public int restore() throws IllegalStateException {
        if (!hasSaved) {
            throw new IllegalStateException("there is no saved copy");
        }
        book.copyFrom(saved);
        history.size = 0;
        return book.table.records;
    }

    // Arguments

    private static int indexOf(char source) {
        return source >= 'a' && source <= 'c' ? source - 'a' : NONE;
    }

    private static char letterOf(int index) {
        return (char) ('a' + index);
    }

    private static boolean isKey(int key) {
        return key >= 0 && key <= MAX_KEY;
    }

    private static int requireSource(char source) {
        int index = indexOf(source);
        if (index < 0) {
            throw new IllegalArgumentException("no such source");
        }
        return index;
    }

    private static int requireOther(char source, char other) {
        int index = requireSource(other);
        if (source == other) {
            throw new IllegalArgumentException("both sources are the same");
        }
        return index;
    }

    private static void requireKey(int key) {
        if (!isKey(key)) {
            throw new IllegalArgumentException("the key is out of range");
        }
    }

    private int requireRecord(char source, int key) {
        int index = requireSource(source);
        requireKey(key);
        int row = book.table.rowOfRecord(index, key);
        if (row < 0) {
            throw new NoSuchElementException("the source has no such counted record");
        }
        return row;
    }

    private int requireRow(int key) {
        requireKey(key);
        int row = book.table.rowOf(key);
        if (row < 0) {
            throw new NoSuchElementException("no counted record has this key");
        }
        return row;
    }

    private void requireReport(int position) {
        if (position < 0 || position >= book.batch.size) {
            throw new IndexOutOfBoundsException("no such report");
        }
    }

    /**
     * The counted records: a row for each key that has one, in the order of keys. No row is empty, so 30 rows hold
     * 30 records of whatever keys. An amount of 0 says that the source has no record with the row's key.
     */
    private static final class KeyTable {
        final int[] keys = new int[MAX_RECORDS];
        final int[][] amounts = new int[SOURCES][MAX_RECORDS];
        final int[][] days = new int[SOURCES][MAX_RECORDS];
        int rows = 0;
        int records = 0;

        void copyFrom(KeyTable from) {
            rows = from.rows;
            records = from.records;
            System.arraycopy(from.keys, 0, keys, 0, MAX_RECORDS);
            for (int source = 0; source < SOURCES; source++) {
                System.arraycopy(from.amounts[source], 0, amounts[source], 0, MAX_RECORDS);
                System.arraycopy(from.days[source], 0, days[source], 0, MAX_RECORDS);
            }
        }

        int rowOf(int key) {
            for (int row = 0; row < rows; row++) {
                if (keys[row] == key) {
                    return row;
                }
            }
            return NONE;
        }

        int rowOfRecord(int source, int key) {
            int row = rowOf(key);
            return row >= 0 && amounts[source][row] > 0 ? row : NONE;
        }

        /** The amount of a record, or 0 if there is none. */
        int amountFor(int source, int key) {
            int row = rowOf(key);
            return row >= 0 ? amounts[source][row] : 0;
        }

        /** Adds a record, or gives it another amount and day; a new one needs room for it. */
        void put(int source, int key, int amount, int day) {
            int row = rowOf(key);
            if (row < 0) {
                row = openRow(key);
            }
            if (row < 0) {
                return;
            }
            if (amounts[source][row] == 0) {
                records++;
            }
            amounts[source][row] = amount;
            days[source][row] = day;
        }

        private int openRow(int key) {
            if (rows >= MAX_RECORDS) {
                return NONE;
            }
            int row = rows;
            rows++;
            for (; row > 0 && keys[row - 1] > key; row--) {
                copyRow(row - 1, row);
            }
            keys[row] = key;
            for (int source = 0; source < SOURCES; source++) {
                amounts[source][row] = 0;
                days[source][row] = 0;
            }
            return row;
        }

        private void copyRow(int from, int to) {
            keys[to] = keys[from];
            for (int source = 0; source < SOURCES; source++) {
                amounts[source][to] = amounts[source][from];
                days[source][to] = days[source][from];
            }
        }

        void remove(int source, int row) {
            amounts[source][row] = 0;
            days[source][row] = 0;
            records--;
            if (holdersAt(row) > 0) {
                return;
            }
            rows--;
            for (int i = row; i < rows; i++) {
                copyRow(i + 1, i);
            }
        }

        int holdersAt(int row) {
            int count = 0;
            for (int source = 0; source < SOURCES; source++) {
                if (amounts[source][row] > 0) {
                    count++;
                }
            }
            return count;
        }

        int countOf(int source) {
            int count = 0;
            for (int row = 0; row < rows; row++) {
                if (amounts[source][row] > 0) {
                    count++;
                }
            }
            return count;
        }

        int sumOf(int source) {
            int sum = 0;
            for (int row = 0; row < rows; row++) {
                sum += amounts[source][row];
            }
            return sum;
        }

        /** The records in the rows whose bits are set. */
        int recordsIn(int rowBits) {
            int count = 0;
            for (int row = 0; row < rows; row++) {
                if ((rowBits >>> row & 1) != 0) {
                    count += holdersAt(row);
                }
            }
            return count;
        }

        int rowAt(int source, int position) {
            int count = 0;
            for (int row = 0; row < rows; row++) {
                if (amounts[source][row] > 0) {
                    if (count == position) {
                        return row;
                    }
                    count++;
                }
            }
            return NONE;
        }

        int oldestRow(int source) {
            int oldest = NONE;
            for (int row = 0; row < rows; row++) {
                if (amounts[source][row] > 0 && (oldest < 0 || days[source][row] < days[source][oldest])) {
                    oldest = row;
                }
            }
            return oldest;
        }

        char statusAt(int row) {
            int first = 0;
            for (int source = 0; source < SOURCES; source++) {
                int amount = amounts[source][row];
                if (first == 0) {
                    first = amount;
                } else if (amount > 0 && amount != first) {
                    return 'd';
                }
            }
            return holdersAt(row) > 1 ? 'c' : 'o';
        }

        int countWithStatus(char status) {
            int count = 0;
            for (int row = 0; row < rows; row++) {
                if (statusAt(row) == status) {
                    count++;
                }
            }
            return count;
        }

        int disputedRow(int position) {
            int count = 0;
            for (int row = 0; row < rows; row++) {
                if (statusAt(row) == 'd') {
                    if (count == position) {
                        return row;
                    }
                    count++;
                }
            }
            return NONE;
        }

        int acceptedAt(int row) {
            int accepted = 0;
            int mostVotes = 0;
            for (int source = 0; source < SOURCES; source++) {
                int amount = amounts[source][row];
                if (amount == 0) {
                    continue;
                }
                int votes = votesFor(amount, row);
                if (votes > mostVotes || votes == mostVotes && amount < accepted) {
                    accepted = amount;
                    mostVotes = votes;
                }
            }
            return accepted;
        }

        private int votesFor(int amount, int row) {
            int votes = 0;
            for (int source = 0; source < SOURCES; source++) {
                if (amounts[source][row] == amount) {
                    votes++;
                }
            }
            return votes;
        }

        /** Gives all records of a row one amount, and returns how many had another one. */
        int level(int row, int amount) {
            int changed = 0;
            for (int source = 0; source < SOURCES; source++) {
                if (amounts[source][row] > 0 && amounts[source][row] != amount) {
                    amounts[source][row] = amount;
                    changed++;
                }
            }
            return changed;
        }

        boolean isPossible(int source, int row, int other, int otherRow) {
            int amount = amounts[source][row];
            int otherAmount = amounts[other][otherRow];
            return amount > 0 && otherAmount > 0
                    && amounts[source][otherRow] == 0 && amounts[other][row] == 0
                    && Math.abs(keys[row] - keys[otherRow]) <= KEY_REACH
                    && Math.abs(amount - otherAmount) <= AMOUNT_REACH;
        }

        boolean areLinked(int row, int otherRow) {
            for (int source = 0; source < SOURCES; source++) {
                for (int other = 0; other < SOURCES; other++) {
                    if (source != other && isPossible(source, row, other, otherRow)) {
                        return true;
                    }
                }
            }
            return false;
        }
    }

    /** The reports of the open batch, in the order in which they arrived. */
    private static final class Batch {
        final int[] sources = new int[MAX_REPORTS];
        final int[] keys = new int[MAX_REPORTS];
        final int[] amounts = new int[MAX_REPORTS];
        int size = 0;

        void copyFrom(Batch from) {
            size = from.size;
            System.arraycopy(from.sources, 0, sources, 0, MAX_REPORTS);
            System.arraycopy(from.keys, 0, keys, 0, MAX_REPORTS);
            System.arraycopy(from.amounts, 0, amounts, 0, MAX_REPORTS);
        }

        int add(int source, int key, int amount) {
            if (size < MAX_REPORTS) {
                sources[size] = source;
                keys[size] = key;
                amounts[size] = amount;
                size++;
            }
            return size;
        }

        int latest(int source, int key, int amount) {
            for (int i = size - 1; i >= 0; i--) {
                if (sources[i] == source && keys[i] == key && amounts[i] == amount) {
                    return i;
                }
            }
            return NONE;
        }

        int removeAt(int position) {
            if (position < 0 || position >= size) {
                return size;
            }
            size--;
            for (int i = position; i < size; i++) {
                sources[i] = sources[i + 1];
                keys[i] = keys[i + 1];
                amounts[i] = amounts[i + 1];
            }
            return size;
        }

        /** The latest report before a position with its source and key, or NONE. */
        int previousOf(int position) {
            for (int i = position - 1; i >= 0; i--) {
                if (sources[i] == sources[position] && keys[i] == keys[position]) {
                    return i;
                }
            }
            return NONE;
        }
    }

    /** All that changes can change: what undo takes back, and what a saved copy holds. */
    private static final class Book {
        final KeyTable table = new KeyTable();
        final Batch batch = new Batch();
        final int[] trust = new int[SOURCES];
        final int[] totals = new int[TOTALS];
        int today = 0;

        Book() {
            for (int source = 0; source < SOURCES; source++) {
                trust[source] = FIRST_TRUST;
            }
        }

        void copyFrom(Book from) {
            table.copyFrom(from.table);
            batch.copyFrom(from.batch);
            System.arraycopy(from.trust, 0, trust, 0, SOURCES);
            System.arraycopy(from.totals, 0, totals, 0, TOTALS);
            today = from.today;
        }

        /** The first fault of a change in the order of the document; the change may be carried out if it has none. */
        int faultOf(int kind, char source, int key, int amount) {
            int index = indexOf(source);
            if (index < 0 || !isKey(key)) {
                return BAD_ARGUMENT;
            }
            switch (kind) {
                case REPORT:
                    return !isAmount(amount) ? BAD_ARGUMENT : batch.size < MAX_REPORTS ? NO_FAULT : BAD_STATE;
                case TAKE:
                    return !isAmount(amount) ? BAD_ARGUMENT
                            : batch.latest(index, key, amount) >= 0 ? NO_FAULT : NO_ELEMENT;
                case CLOSE:
                    return hasRoomForBatch() ? NO_FAULT : BAD_STATE;
                case SETTLE:
                    return settleFault(index, key);
                case DROP:
                    return table.rowOfRecord(index, key) >= 0 ? NO_FAULT : NO_ELEMENT;
                case DAYS:
                    return amount >= 1 && amount <= MAX_DAYS ? NO_FAULT : BAD_ARGUMENT;
                default:
                    return NO_FAULT;
            }
        }

        private static boolean isAmount(int amount) {
            return amount >= 1 && amount <= MAX_AMOUNT;
        }

        private int settleFault(int source, int key) {
            int row = table.rowOfRecord(source, key);
            if (row < 0) {
                return NO_ELEMENT;
            }
            return table.statusAt(row) == 'd' ? NO_FAULT : BAD_STATE;
        }

        /** Carries out a change that has no fault, and returns what its method answers. */
        int carryOut(int kind, char source, int key, int amount) {
            int index = indexOf(source);
            if (index < 0) {
                return NONE;
            }
            switch (kind) {
                case REPORT:
                    return batch.add(index, key, amount);
                case TAKE:
                    return batch.removeAt(batch.latest(index, key, amount));
                case CLOSE:
                    return countBatch();
                case REJECT:
                    return forgetBatch();
                case SETTLE:
                    return settleFor(index, key);
                case DROP:
                    return dropRecord(index, key);
                default:
                    today += amount;
                    return today;
            }
        }

        // An earlier report with this source and key leaves its amount, whatever it is, in the record.
        char outcomeAt(int position) {
            int previous = batch.previousOf(position);
            int amount = previous >= 0 ? batch.amounts[previous]
                    : table.amountFor(batch.sources[position], batch.keys[position]);
            if (amount == 0) {
                return 'n';
            }
            return amount == batch.amounts[position] ? 'd' : 'c';
        }

        boolean hasRoomForBatch() {
            int records = table.records;
            for (int i = 0; i < batch.size; i++) {
                if (outcomeAt(i) == 'n') {
                    records++;
                }
            }
            return records <= MAX_RECORDS;
        }

        private int countBatch() {
            int added = 0;
            for (int i = 0; i < batch.size; i++) {
                char outcome = outcomeAt(i);
                if (outcome == 'd') {
                    totals[DUPLICATES]++;
                    continue;
                }
                if (outcome == 'n') {
                    added++;
                } else {
                    totals[CORRECTIONS]++;
                }
                table.put(batch.sources[i], batch.keys[i], batch.amounts[i], today);
            }
            totals[NEW_RECORDS] += added;
            totals[CLOSED]++;
            openNextBatch();
            return added;
        }

        private int forgetBatch() {
            int forgotten = batch.size;
            totals[REJECTED]++;
            openNextBatch();
            return forgotten;
        }

        private void openNextBatch() {
            batch.size = 0;
            today++;
        }

        private int settleFor(int source, int key) {
            int row = table.rowOfRecord(source, key);
            if (row < 0) {
                return 0;
            }
            int amount = table.amounts[source][row];
            trust[source] = Math.min(trust[source] + 1, MAX_TRUST);
            for (int other = 0; other < SOURCES; other++) {
                int otherAmount = table.amounts[other][row];
                if (otherAmount > 0 && otherAmount != amount) {
                    trust[other] = Math.max(trust[other] - 1, 0);
                }
            }
            totals[SETTLED]++;
            return table.level(row, amount);
        }

        private int dropRecord(int source, int key) {
            int row = table.rowOfRecord(source, key);
            if (row >= 0) {
                table.remove(source, row);
                totals[DROPPED]++;
            }
            return table.records;
        }
    }

    /** The book as it was before each of the latest changes, in a ring: the oldest one gives way. */
    private static final class History {
        final Book[] kept = new Book[MAX_CHANGES];
        int newest = 0;
        int size = 0;

        History() {
            for (int i = 0; i < MAX_CHANGES; i++) {
                kept[i] = new Book();
            }
        }

        void keep(Book before) {
            newest = (newest + 1) % MAX_CHANGES;
            kept[newest].copyFrom(before);
            size = Math.min(size + 1, MAX_CHANGES);
        }

        int takeBack(Book book) {
            if (size > 0) {
                book.copyFrom(kept[newest]);
                newest = (newest + MAX_CHANGES - 1) % MAX_CHANGES;
                size--;
            }
            return size;
        }
    }

    /**
     * Finds matchings between two sources. A record takes part only where the other source lacks its key, so a row
     * stands for at most one record: of the first source (a left row) or of the second one (a right row).
     */
    private static final class Matching {
        // Each step tries a pair or leaves a row, and each pair is tried once in a round.
        private static final int MAX_STEPS = 2 * MAX_RECORDS * MAX_RECORDS;

        final int[] reach = new int[MAX_RECORDS];
        final int[] mates = new int[MAX_RECORDS];
        final int[] reachedBy = new int[MAX_RECORDS];
        final int[] queue = new int[MAX_RECORDS];
        final int[] layers = new int[MAX_RECORDS];
        final int[] nextTries = new int[MAX_RECORDS];
        final int[] path = new int[MAX_RECORDS];
        int rows = 0;
        int lastLayer = NONE;

        /** Sets for each left row the bits of the right rows that it is a possible pair with; none is matched yet. */
        void load(KeyTable table, int source, int other) {
            rows = table.rows;
            for (int left = 0; left < rows; left++) {
                mates[left] = NONE;
                reach[left] = 0;
                for (int right = 0; right < rows; right++) {
                    if (table.isPossible(source, left, other, right)) {
                        reach[left] |= 1 << right;
                    }
                }
            }
        }

        void leaveOut(int left) {
            reach[left] = 0;
        }

        int pairCount() {
            int count = 0;
            for (int left = 0; left < rows; left++) {
                count += Integer.bitCount(reach[left]);
            }
            return count;
        }

        int growOneByOne() {
            int size = 0;
            for (int left = 0; left < rows; left++) {
                if (findMateFor(left)) {
                    size++;
                }
            }
            return size;
        }

        private boolean findMateFor(int start) {
            int seen = 0;
            int tail = 1;
            queue[0] = start;
            for (int head = 0; head < tail && head < MAX_RECORDS; head++) {
                int left = queue[head];
                for (int right = 0; right < rows; right++) {
                    if (((reach[left] & ~seen) >>> right & 1) == 0) {
                        continue;
                    }
                    seen |= 1 << right;
                    reachedBy[right] = left;
                    if (mates[right] < 0) {
                        matchBackFrom(right);
                        return true;
                    }
                    if (tail < MAX_RECORDS) {
                        queue[tail] = mates[right];
                        tail++;
                    }
                }
            }
            return false;
        }

        /** Matches each right row of a path with the left row that reached it; the path ends in a free right row. */
        private void matchBackFrom(int end) {
            int right = end;
            for (int step = 0; step < rows && right >= 0; step++) {
                int left = reachedBy[right];
                int before = mates[left];
                mates[left] = right;
                mates[right] = left;
                right = before;
            }
        }

        int growInRounds() {
            int size = 0;
            for (int round = 0; round <= rows && layOut(); round++) {
                for (int left = 0; left < rows; left++) {
                    nextTries[left] = 0;
                }
                for (int left = 0; left < rows; left++) {
                    if (layers[left] == 0 && descendFrom(left)) {
                        size++;
                    }
                }
            }
            return size;
        }

        /** Gives each left row its distance from the free ones, and returns whether a free right row was reached. */
        private boolean layOut() {
            int tail = 0;
            for (int left = 0; left < rows; left++) {
                layers[left] = NONE;
                if (reach[left] != 0 && mates[left] < 0) {
                    layers[left] = 0;
                    queue[tail] = left;
                    tail++;
                }
            }
            lastLayer = NONE;
            for (int head = 0; head < tail && head < MAX_RECORDS; head++) {
                int left = queue[head];
                if (lastLayer >= 0 && layers[left] > lastLayer) {
                    break;
                }
                tail = layOutNext(left, tail);
            }
            return lastLayer >= 0;
        }

        private int layOutNext(int left, int tail) {
            int end = tail;
            for (int right = 0; right < rows; right++) {
                if ((reach[left] >>> right & 1) == 0) {
                    continue;
                }
                int mate = mates[right];
                if (mate < 0) {
                    lastLayer = layers[left];
                } else if (layers[mate] < 0 && end < MAX_RECORDS) {
                    layers[mate] = layers[left] + 1;
                    queue[end] = mate;
                    end++;
                }
            }
            return end;
        }

        /** Looks for a path that goes one layer on with each left row, and matches its rows. */
        private boolean descendFrom(int start) {
            int depth = 0;
            path[0] = start;
            for (int step = 0; step < MAX_STEPS && depth >= 0; step++) {
                int left = path[depth];
                int right = nextTry(left);
                if (right < 0) {
                    depth--;
                    continue;
                }
                int mate = mates[right];
                if (mate < 0) {
                    reachedBy[right] = left;
                    matchBackFrom(right);
                    return true;
                }
                if (layers[mate] == layers[left] + 1 && layers[mate] <= lastLayer && depth + 1 < MAX_RECORDS) {
                    reachedBy[right] = left;
                    depth++;
                    path[depth] = mate;
                }
            }
            return false;
        }

        private int nextTry(int left) {
            for (int right = nextTries[left]; right < rows; right++) {
                if ((reach[left] >>> right & 1) != 0) {
                    nextTries[left] = right + 1;
                    return right;
                }
            }
            nextTries[left] = rows;
            return NONE;
        }
    }

    /** Finds groups. All records of a row have the same key, so a group consists of whole rows. */
    private static final class Groups {
        final int[] links = new int[MAX_RECORDS];
        final int[] parents = new int[MAX_RECORDS];
        final int[] queue = new int[MAX_RECORDS];
        int rows = 0;

        void load(KeyTable table) {
            rows = table.rows;
            for (int row = 0; row < rows; row++) {
                links[row] = 0;
                for (int other = 0; other < row; other++) {
                    if (table.areLinked(row, other)) {
                        links[row] |= 1 << other;
                        links[other] |= 1 << row;
                    }
                }
            }
        }

        int countByUniting() {
            int count = rows;
            for (int row = 0; row < rows; row++) {
                parents[row] = row;
            }
            for (int row = 0; row < rows; row++) {
                for (int other = 0; other < row; other++) {
                    if ((links[row] >>> other & 1) != 0 && unite(row, other)) {
                        count--;
                    }
                }
            }
            return count;
        }

        private boolean unite(int row, int other) {
            int root = rootOf(row);
            int otherRoot = rootOf(other);
            parents[root] = otherRoot;
            return root != otherRoot;
        }

        private int rootOf(int row) {
            int root = row;
            for (int step = 0; step < rows && parents[root] != root; step++) {
                root = parents[root];
            }
            return root;
        }

        int countBySearching() {
            int count = 0;
            int reached = 0;
            for (int row = 0; row < rows; row++) {
                if ((reached >>> row & 1) == 0) {
                    reached |= reachedFrom(row);
                    count++;
                }
            }
            return count;
        }

        /** The bits of the rows in the group of a row. */
        int reachedFrom(int start) {
            int reached = 1 << start;
            int tail = 1;
            queue[0] = start;
            for (int head = 0; head < tail && head < MAX_RECORDS; head++) {
                for (int row = 0; row < rows; row++) {
                    if (((links[queue[head]] & ~reached) >>> row & 1) != 0 && tail < MAX_RECORDS) {
                        reached |= 1 << row;
                        queue[tail] = row;
                        tail++;
                    }
                }
            }
            return reached;
        }
    }

    /** The input buffer, and the commands that were read from it. */
    private static final class Program {
        final char[] text = new char[MAX_INPUT];
        int length = 0;

        // A command takes more than one character, so no program has more of them than the buffer has characters.
        final int[] kinds = new int[MAX_INPUT];
        final char[] sources = new char[MAX_INPUT];
        final int[] keys = new int[MAX_INPUT];
        final int[] amounts = new int[MAX_INPUT];
        int commands = 0;
        int position = 0;

        int add(char character) {
            if (length < MAX_INPUT) {
                text[length] = character;
                length++;
            }
            return length;
        }

        /** Reads the whole buffer, and returns the error position, or NONE if it holds a program. */
        int parse() {
            position = 0;
            commands = 0;
            for (int i = 0; i < MAX_INPUT; i++) {
                if (!readCommand(i)) {
                    return position;
                }
                commands = i + 1;
                if (position >= length) {
                    return NONE;
                }
                if (!skip(';')) {
                    return position;
                }
            }
            return position;
        }

        // Where a part is not there, the position stays at the first character that can't be one of it.
        private boolean readCommand(int index) {
            int kind = readKeyword();
            if (kind < 0) {
                return false;
            }
            kinds[index] = kind;
            sources[index] = 'a';
            keys[index] = 0;
            amounts[index] = 0;
            switch (kind) {
                case REPORT:
                case TAKE:
                    return readSource(index) && readKey(index) && skip('=') && readAmount(index);
                case SETTLE:
                case DROP:
                    return readSource(index) && readKey(index);
                case DAYS:
                    return readAmount(index);
                default:
                    return true;
            }
        }

        // No keyword begins with another one, so the one that is there as a whole is the only one.
        private int readKeyword() {
            int longest = 0;
            for (int kind = 0; kind < KINDS; kind++) {
                String keyword = keywordOf(kind);
                int common = commonLength(keyword);
                if (common == keyword.length()) {
                    position += common;
                    return kind;
                }
                longest = Math.max(longest, common);
            }
            position += longest;
            return NONE;
        }

        private static String keywordOf(int kind) {
            switch (kind) {
                case REPORT:
                    return "report ";
                case TAKE:
                    return "take ";
                case CLOSE:
                    return "close";
                case REJECT:
                    return "reject";
                case SETTLE:
                    return "settle ";
                case DROP:
                    return "drop ";
                default:
                    return "days ";
            }
        }

        private int commonLength(String keyword) {
            int common = 0;
            for (int i = 0; i < keyword.length() && position + i < length; i++) {
                if (text[position + i] != keyword.charAt(i)) {
                    break;
                }
                common++;
            }
            return common;
        }

        private boolean skip(char character) {
            if (position >= length || text[position] != character) {
                return false;
            }
            position++;
            return true;
        }

        private boolean readSource(int index) {
            if (position >= length || indexOf(text[position]) < 0) {
                return false;
            }
            sources[index] = text[position];
            position++;
            return true;
        }

        private boolean readKey(int index) {
            keys[index] = readNumber(3);
            return keys[index] >= 0;
        }

        private boolean readAmount(int index) {
            amounts[index] = readNumber(2);
            return amounts[index] >= 0;
        }

        private int readNumber(int maxDigits) {
            int value = NONE;
            for (int digits = 0; digits < maxDigits && position < length; digits++) {
                char digit = text[position];
                if (digit < '0' || digit > '9') {
                    break;
                }
                value = (value < 0 ? 0 : value * 10) + (digit - '0');
                position++;
            }
            return value;
        }
    }
}
