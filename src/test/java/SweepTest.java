import java.util.Arrays;
import java.util.stream.IntStream;

/** Every call with all arguments in and about its bounds, in some states, held against the model. */
public final class SweepTest {
    private static final Check CHECK = new Check();
    private static final String[] TEXTS = {
        "",
        "letter ab 4 4; picker p 3 4 1; word b; blows = lain - 1; takes = sign + lain; rain 40; seed 3;",
        "letter abcde 7 2; letter ba 8 2; picker p 9 2 2; picker q 0 7 1; picker r 7 2 3; word ab; word abba; word ce; blows = 2 - here; wind -1 1;"
            + "takes = 10 * here + sign; pays = sign * has + which; rain 50; seed 9999;",
        "letter abcdefgh 5 0; letter hgfedcba 5 0; picker p 4 0 2; picker q 9 0 3; picker r 0 0 5; picker s 2 0 32; word abc; word hhgg; word a; word b;"
            + "word c; word abcdefgh; word z; word fed; blows = which - 12; wind 2 -2; takes = 99 - across * lain; rain 70;"};
    private static final String[][] STEPS = {{}, {"send 0 6 4", "hours 2"}, {"send 1 5 5", "hours 1", "give 0 1", "drop 1", "hold 1", "tell 1 true", "tell 5 false", "hours 3"},
        {"send 0 9 7", "send 3 9 0", "hours 4", "hold 0", "drop 3", "send 2 1 1", "hours 1", "tell 3 true", "tell 26 false", "tell 2 true", "give 3 0"}};
    private final ConfettiRound round;
    private final Model model = new Model();
    private final String state;

    private SweepTest(String text, String[] steps) {
        round = Edges.replayed(text, steps);
        state = text + " " + Arrays.toString(steps);
        for (char c : text.toCharArray()) {
            model.feed(c << 24, 0, 0, 0, 0);
            model.back(19);
        }
        model.read();
        for (String step : steps) {
            Calls.answer(model, step);
        }
    }

    public static void main(String[] args) {
        for (int i = 0; i < TEXTS.length; i++) {
            for (int steps = 0; steps <= STEPS[i].length; steps += Math.max(1, STEPS[i].length)) {
                new SweepTest(TEXTS[i], Arrays.copyOf(STEPS[i], steps)).go(i < 3);
            }
        }
        CHECK.end();
    }

    private static int[] about(int least, int most) {
        int[] far = {Integer.MIN_VALUE, Integer.MIN_VALUE + 1, -1000, 1000, Integer.MAX_VALUE};
        return IntStream.concat(IntStream.rangeClosed(least - 3, most + 3), Arrays.stream(far)).toArray();
    }

    private void go(boolean small) {
        int[] pieces = about(0, 15);
        int[] pickers = about(0, 3);
        int[] xs = about(0, 9);
        int[] ys = about(0, 7);
        int[] heaps = about(0, 5);
        int[] whats = about(0, 1);
        int[] known = about(0, 3);
        int[] hours = {Integer.MIN_VALUE, -2, -1, 0, 1, 2, 7, 39, 40, 41, 42, Integer.MAX_VALUE};
        sweep("place");
        sweep("piece", pieces, about(0, 7));
        sweep("picker", pickers, about(0, 6));
        sweep("lies", xs, ys);
        sweep("steps", pickers, xs, ys);
        sweep("round", pickers, whats);
        sweep("share", pickers, pickers);
        sweep("closest", xs, ys);
        sweep("richest", whats);
        sweep("made", heaps);
        sweep("together", whats);
        sweep("missing", about(0, 7), heaps);
        sweep("longest", heaps);
        sweep("whole");
        sweep("loss", small ? about(0, 40) : hours);
        sweep("stand", pickers, small ? about(1, 12) : new int[] {0, 1, 2, 13}, whats);
        sweep("late");
        sweep("pieceIn", pieces, hours, about(0, 2));
        sweep("pickerIn", pickers, hours, about(0, 2));
        sweep("year", hours, small ? about(1, 20) : new int[] {0, 1, 2, 20, 21});
        sweep("written", known, whats);
        sweep("ask", known);
        sweep("count", about(0, 14));
        changes(pieces, pickers, xs, ys);
    }

    /** Calls by which something may happen. */
    private void changes(int[] pieces, int[] pickers, int[] xs, int[] ys) {
        int things = model.count(9);
        sweepDownTo(things, "send", pickers, xs, ys);
        sweepDownTo(things, "drop", pieces);
        sweepDownTo(things, "give", pickers, pickers);
        sweepDownTo(things, "hours", about(0, 40));
        sweep("hold", about(0, 2));
        sweep("restore", about(0, 2));
        sweep("back", about(0, 3));
        sweep("count", about(0, 14));
        for (int sign : about(1, 26)) {
            CHECK.same("tell " + sign, round.tell(sign, sign % 2 == 0), model.tell(sign, sign % 2 == 0));
        }
        sweep("written", about(0, 20), about(0, 1));
        sweep("ask", about(0, 20));
        sweep("forget");
        sweep("count", about(0, 14));
    }

    private void sweep(String call, int[]... values) {
        sweepDownTo(Integer.MAX_VALUE, call, values);
    }

    /** Behind each call, things done are undone until this many are left. */
    private void sweepDownTo(int things, String call, int[]... values) {
        int[] at = new int[values.length];
        boolean more = true;
        while (more) {
            Object[] arguments = new Object[at.length];
            for (int i = 0; i < at.length; i++) {
                arguments[i] = values[i][at[i]];
            }
            String what = call + Arrays.toString(arguments) + " of " + state;
            CHECK.same(what, Calls.answer(round, call, arguments), Calls.answer(model, call, arguments));
            while (model.count(9) > things) {
                CHECK.same("things done by " + what, round.count(9), model.count(9));
                CHECK.same("undo of " + what, round.undo(), model.undo());
                CHECK.same("the hour behind " + what, round.count(4), model.count(4));
            }
            more = next(at, values);
        }
    }

    private static boolean next(int[] at, int[][] values) {
        for (int i = 0; i < at.length; i++) {
            at[i]++;
            if (at[i] < values[i].length) {
                return true;
            }
            at[i] = 0;
        }
        return false;
    }
}
