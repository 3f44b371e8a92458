/**
 * What the tests of single sentences share. Such a test is a static method without parameters in
 * one of the classes that SentencesTest lists, and it begins with the words of ../shared/DOC.md
 * that it holds to: introduction(".."), terms("..") or promise(2, "..").
 */
abstract class Sentences {
    static final int INVALID = Look.INVALID;
    static final int ILLEGAL = Look.ILLEGAL;
    static final int FULL = Look.FULL;
    static final int NONE = Look.NONE;
    static final int MIN = Integer.MIN_VALUE;
    static final int MAX = Integer.MAX_VALUE;

    static final Check CHECK = new Check("SentencesTest");
    static final Doc DOC = new Doc();
    private static String words = "";

    static void introduction(String quote) {
        quote(Doc.INTRODUCTION, quote);
    }

    static void terms(String quote) {
        quote(Doc.TERMS, quote);
    }

    static void promise(int number, String quote) {
        quote("Promise " + number, quote);
    }

    private static void quote(String section, String quote) {
        words = section + ", \"" + quote + "\"";
        CHECK.due("the quote", DOC.quote(section, quote), "");
    }

    static void startTest() {
        words = "";
    }

    static boolean quotes() {
        return !words.isEmpty();
    }

    static void due(long answer, long due) {
        CHECK.due(answer == due ? "" : where(), answer, due);
    }

    static void holds(boolean holds) {
        CHECK.holds(holds ? "" : where(), holds);
    }

    static void same(String look, String due) {
        CHECK.due(look.equals(due) ? "" : where(), look, due);
    }

    private static String where() {
        return StackWalker.getInstance().walk(frames -> frames
                .filter(f -> !f.getClassName().equals("Sentences")).findFirst()
                .map(f -> f.getFileName() + ":" + f.getLineNumber()).orElse("?")) + " (" + words + ")";
    }

    /** The call answers this error code and changes nothing that can be seen. */
    static void refuses(GainTables t, int error, String method, int... arguments) {
        String look = Look.all(t);
        Call call = new Call(method, arguments);
        int answer = call.on(t);
        CHECK.due(answer == error ? "" : call + " at " + where(), answer, error);
        same(Look.all(t), look);
    }

    /** All but the history and the text: what undo() brings back. */
    static String state(GainTables t) {
        String[] lines = Look.all(t).split("\n", 2);
        String[] counts = lines[0].split(" ");
        counts[1 + 9] = "-";
        counts[1 + 10] = "-";
        return String.join(" ", counts) + "\n" + lines[1];
    }

    /** The call answers no error, records one state, and undo() brings that state back. */
    static void isAction(GainTables t, String method, int... arguments) {
        String look = state(t);
        int states = t.count(9);
        holds(states < 5);
        Call call = new Call(method, arguments);
        int answer = call.on(t);
        CHECK.holds(call + " at " + where() + " answers " + answer, !Look.isError(answer));
        due(t.count(9), states + 1);
        due(t.undo(), states);
        same(state(t), look);
    }

    /**
     * The argument with this index is refused right outside of its range and far away from it; at
     * both ends of its range it is not. The other arguments stay as they are given, and each call
     * meets a table of its own.
     */
    static void range(java.util.function.Supplier<GainTables> table, int index, int least,
            int greatest, String method, int... arguments) {
        int[] changed = arguments.clone();
        for (int outside : new int[] {least - 1, greatest + 1, MIN, MAX}) {
            changed[index] = outside;
            refuses(table.get(), INVALID, method, changed);
        }
        for (int end : new int[] {least, greatest}) {
            changed[index] = end;
            Call call = new Call(method, changed);
            int answer = call.on(table.get());
            CHECK.holds(call + " at " + where() + " is not out of range", answer != INVALID);
        }
    }
}
