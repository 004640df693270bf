import java.util.Arrays;

/**
 * Edges of the document, each as the sentence that names it, a text, and rows of calls on a new object. A row
 * "send 0 10 0 = false" tells a call and its answer; "send 0 10 0 ~ false" tells, besides, that nothing happens by
 * it; "tape:word a;" feeds this text.
 */
final class Edges {
    private static final String TAPE = "tape:";
    private final Check check = new Check();

    void edge(String sentence, String text, String... rows) {
        ConfettiRound round = new ConfettiRound();
        if (text != null) {
            round = check.with(text);
        }
        for (int i = 0; i < rows.length; i++) {
            long got = done(round, rows[i]);
            if (!rows[i].startsWith(TAPE)) {
                check.same(sentence + " | " + rows[i], got, Calls.number(rows[i].split(" [=~] ")[1]));
            }
            if (rows[i].contains(" ~ ")) {
                ConfettiRound without = replayed(text, Arrays.copyOf(rows, i));
                check.same(sentence + " | " + rows[i] + ": the place stays", round.place(), without.place());
                alike(sentence + " | " + rows[i] + ": nothing happens", replayed(text, Arrays.copyOf(rows, i + 1)), without);
            }
        }
    }

    void fault(String sentence, String text, int fault, int place) {
        ConfettiRound round = new ConfettiRound();
        Check.feed(round, text);
        check.same(sentence + " | read() of " + text, round.read(), fault);
        check.same(sentence + " | place() of " + text, round.place(), place);
    }

    void good(String sentence, String text) {
        fault(sentence, text, 0, -1);
    }

    /** That two objects can't be told apart but by place(). It takes them through all that they hold. */
    void alike(String sentence, ConfettiRound one, ConfettiRound other) {
        check.same(sentence, seen(one).equals(seen(other)), true);
    }

    void same(String sentence, long got, long want) {
        check.same(sentence, got, want);
    }

    void end() {
        check.end();
    }

    static ConfettiRound replayed(String text, String... rows) {
        ConfettiRound round = new ConfettiRound();
        if (text != null) {
            Check.feed(round, text);
            round.read();
        }
        for (String row : rows) {
            done(round, row);
        }
        return round;
    }

    private static long done(ConfettiRound round, String row) {
        if (row.startsWith(TAPE)) {
            Check.feed(round, row.substring(TAPE.length()));
            return 0;
        }
        return Calls.answer(round, row.split(" [=~] ")[0]);
    }

    /** All that an object shows, then behind each undo, from each SLOT, and what its tape is read as. */
    private static String seen(ConfettiRound round) {
        StringBuilder all = new StringBuilder();
        look(round, all);
        for (int i = 0; i < 45 && round.undo(); i++) {
            look(round, all.append("\nundone"));
        }
        for (int slot = 0; slot < 3; slot++) {
            if (round.restore(slot)) {
                look(round, all.append("\nslot ").append(slot));
            }
        }
        all.append("\nread ").append(round.read()).append(' ').append(round.place());
        look(round, all);
        return all.toString();
    }

    private static void look(ConfettiRound round, StringBuilder all) {
        all.append("\ncounts");
        for (int what = 0; what <= 14; what++) {
            all.append(' ').append(round.count(what));
        }
        for (int piece = 0; piece < round.count(1); piece++) {
            all.append("\npiece");
            for (int what = 0; what <= 7; what++) {
                all.append(' ').append(round.piece(piece, what));
            }
            for (int what = 0; what <= 2; what++) {
                all.append(' ').append(round.pieceIn(piece, 7, what));
            }
        }
        for (int picker = 0; picker < round.count(3); picker++) {
            all.append("\npicker");
            for (int what = 0; what <= 6; what++) {
                all.append(' ').append(round.picker(picker, what));
            }
        }
        all.append("\nwords ").append(round.made(5));
        for (int k = 0; k <= round.count(10); k++) {
            all.append(' ').append(round.written(k, 1));
        }
    }
}
