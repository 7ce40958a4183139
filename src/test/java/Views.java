/** What an object answers, as text, and short ways to bring an object into a state. */
final class Views {
    private static final char[] SOURCES = {'a', 'b', 'c'};

    private Views() {
    }

    /** A new object with these counted records, for example "a10=40 b15=42"; a blank parts them. */
    static RecordReconciler with(String records) {
        RecordReconciler x = new RecordReconciler();
        count(x, records);
        return x;
    }

    /** Reports and closes, in batches of 12. */
    static void count(RecordReconciler x, String records) {
        int inBatch = 0;
        for (String record : records.split(" ")) {
            if (inBatch == 12) {
                x.closeBatch();
                inBatch = 0;
            }
            report(x, record);
            inBatch++;
        }
        x.closeBatch();
    }

    static void report(RecordReconciler x, String record) {
        int equals = record.indexOf('=');
        x.report(record.charAt(0), Integer.parseInt(record.substring(1, equals)),
                Integer.parseInt(record.substring(equals + 1)));
    }

    /** Records of one source with the keys from, from + step, .., all with one amount. */
    static String row(char source, int from, int step, int number, int amount) {
        StringBuilder text = new StringBuilder();
        for (int i = 0; i < number; i++) {
            text.append(i > 0 ? " " : "").append(source).append(from + i * step).append('=').append(amount);
        }
        return text.toString();
    }

    /** 30 counted records, 10 of each source, with keys 0, 30, .., 270 and amounts 10, 20, 30. */
    static RecordReconciler full() {
        return with(row('a', 0, 30, 10, 10) + " " + row('b', 0, 30, 10, 20) + " " + row('c', 0, 30, 10, 30));
    }

    static void type(RecordReconciler x, String text) {
        for (char character : text.toCharArray()) {
            x.append(character);
        }
    }

    /** Types a program and runs it. */
    static int run(RecordReconciler x, String text) {
        type(x, text);
        return x.run();
    }

    static String line(RecordReconciler x) {
        StringBuilder text = new StringBuilder();
        for (int i = 0; true; i++) {
            try {
                text.append(x.lineChar(i));
            } catch (IndexOutOfBoundsException e) {
                return text.toString();
            }
        }
    }

    /** All that changes can change, as far as one can ask for it without changing the line. */
    static String state(RecordReconciler x) {
        StringBuilder text = new StringBuilder();
        text.append("day ").append(x.day()).append(" batch");
        for (int i = 0; i < x.reportCount(); i++) {
            text.append(' ').append(x.reportSource(i)).append(x.reportKey(i)).append('=').append(x.reportAmount(i));
            text.append(x.outcomeOf(i));
        }
        text.append(" records ").append(x.recordCount());
        for (char source : SOURCES) {
            for (int i = 0; i < x.recordsOf(source); i++) {
                int key = x.keyAt(source, i);
                text.append(' ').append(source).append(key).append('=').append(x.amountOf(source, key));
                text.append('@').append(x.dayOf(source, key));
            }
            text.append(" trust ").append(x.trustOf(source));
        }
        text.append(" totals ").append(x.newTotal()).append(' ').append(x.correctionTotal());
        text.append(' ').append(x.duplicateTotal()).append(' ').append(x.droppedTotal());
        text.append(' ').append(x.closedTotal()).append(' ').append(x.rejectedTotal());
        text.append(' ').append(x.settledTotal());
        return text.toString();
    }

    static String all(RecordReconciler x) {
        return state(x) + " line " + line(x) + " undoable " + x.undoableCount()
                + " error " + Checks.outcome(x::errorPosition) + " failed " + Checks.outcome(x::failedCommand);
    }
}
