/** Shows each group of calls of GainTables, and what they answer. */
public final class Example {
    public static void main(String[] args) {
        GainTables table = new GainTables();

        // Borders and gains. The point is at (500, 500) at first.
        say("number of the border", table.addBorder(0, 400, 0, 50)); // sticky, occupies 350 to 450
        say("number of the border", table.addBorder(1, 500, 1, 20)); // blending, 480 to 520
        say("gain ahead of the edit", table.edit(0, 1, 0, 2, 90)); // operator 0, region (1, 0)
        say("gain 2 at the point", table.gain(2, 0)); // half of 90, half of 0

        // Moves. The sticky border keeps its zone until the point is through what it occupies.
        say("jump of the move", table.move(500, 490));
        say("gain 2 at the point", table.gain(2, 0));
        say("changes of zones", table.sweep(0, 360, 10));
        say("active zone of the columns", table.count(4));
        say("effect of going on", table.effect(340, 490)); // 1 moves, 2 a zone, 8 a value
        say("jump of the latest move", table.trail(0, 7));

        // Errors change nothing, and their constants are far below every other answer.
        int answer = table.edit(0, 1, 0, 2, 900);
        if (answer == GainTables.ILLEGAL_STATE) {
            say("refused for the reason", table.refusal(0, 1, 0, 2, 900)); // over the step of 100
        }
        if (table.move(1001, 0) == GainTables.INVALID_ARGUMENT) {
            say("the point stayed at", table.count(2));
        }

        // Snapshots, texts and undo.
        say("regions in the snapshot", table.take(0));
        say("items of the text", read(table, "x300 20~; y700 0; g1 0 0 75;"));
        say("gain 0 of the region (1, 0)", table.region(1, 0, 0));
        say("error position", -2000001000 - read(table, "x300 20~; z"));
        say("length of the text, kept", table.count(10));
        say("regions of the snapshot", table.restore(0));
        say("gain 2 of the region (1, 0)", table.region(1, 0, 2));
        say("states left to go back to", table.undo()); // back to the table of the text
        say("gain 0 of the region (1, 0)", table.region(1, 0, 0));
    }

    private static int read(GainTables table, String text) {
        table.clearText();
        for (int i = 0; i < text.length(); i++) {
            table.append(text.charAt(i));
        }
        return table.load();
    }

    private static void say(String what, int answer) {
        System.out.println(what + ": " + answer);
    }
}
