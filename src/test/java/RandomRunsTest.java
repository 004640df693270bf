import java.nio.charset.StandardCharsets;
import java.util.Random;

/** Random texts and calls on the class and on the model of it: each answer must be the same. */
public final class RandomRunsTest {
    private static final Check CHECK = new Check();
    private final Random random;
    private final int run;
    private final ConfettiRound round = new ConfettiRound();
    private final Model model = new Model();
    private final TextMaker maker;

    private RandomRunsTest(int run) {
        this.run = run;
        random = new Random(run);
        maker = new TextMaker(random);
    }

    public static void main(String[] args) {
        int runs = args.length > 0 ? Integer.parseInt(args[0]) : 120;
        int first = args.length > 1 ? Integer.parseInt(args[1]) : 0;
        for (int run = first; run < first + runs && !CHECK.isWrong(); run++) {
            new RandomRunsTest(run).go();
        }
        CHECK.end();
    }

    private void go() {
        newText(maker.text());
        int calls = 380;
        for (int i = 0; i < calls; i++) {
            int kind = random.nextInt(100);
            if (kind < 2) {
                newText(random.nextInt(3) == 0 ? maker.text() : maker.spoilt(maker.text()));
            } else if (kind < 40) {
                act();
            } else {
                look();
            }
        }
    }

    private void same(String call, long got, long want) {
        CHECK.same("run " + run + ": " + call, got, want);
    }

    private void same(String call, boolean got, boolean want) {
        CHECK.same("run " + run + ": " + call, got, want);
    }

    private void newText(String text) {
        byte[] bytes = text.getBytes(StandardCharsets.ISO_8859_1);
        int length = (bytes.length + 19) / 20 * 20;
        bytes = java.util.Arrays.copyOf(bytes, length);
        for (int i = 0; i < length; i += 20) {
            int[] f = new int[5];
            for (int k = 0; k < 20; k++) {
                f[k / 4] = f[k / 4] << 8 | bytes[i + k] & 255;
            }
            same("feed", round.feed(f[0], f[1], f[2], f[3], f[4]), model.feed(f[0], f[1], f[2], f[3], f[4]));
        }
        int off = length - text.length();
        same("back", round.back(off), model.back(off));
        same("read() of " + text, round.read(), model.read());
        same("place() of " + text, round.place(), model.place());
    }

    /** Mostly least .. most, now and then one beside it, or far off. */
    private int about(int least, int most) {
        int kind = random.nextInt(60);
        if (kind == 0) {
            return least - 1;
        }
        if (kind == 1) {
            return most + 1;
        }
        if (kind == 2) {
            return random.nextInt();
        }
        return least + random.nextInt(most - least + 1);
    }

    private int somePicker() {
        int pickers = model.count(3);
        return about(0, pickers == 0 ? 3 : pickers - 1);
    }

    private int somePiece() {
        int pieces = model.count(1);
        return about(0, pieces == 0 ? 3 : pieces - 1);
    }

    private int someX() {
        int piece = somePiece();
        return random.nextBoolean() && model.piece(piece, 4) == -2 ? model.piece(piece, 2) : about(0, 9);
    }

    private void act() {
        int a = somePicker();
        int b = somePicker();
        switch (random.nextInt(9)) {
            case 0, 1, 2 -> {
                int piece = somePiece();
                boolean aim = random.nextInt(3) > 0 && model.piece(piece, 4) == -2;
                int x = aim ? model.piece(piece, 2) : about(-1, 9);
                int y = aim ? model.piece(piece, 3) : about(0, 7);
                same("send " + a + " " + x + " " + y, round.send(a, x, y), model.send(a, x, y));
            }
            case 3 -> {
                int piece = somePiece();
                same("drop " + piece, round.drop(piece), model.drop(piece));
            }
            case 4 -> same("give " + a + " " + b, round.give(a, b), model.give(a, b));
            case 5, 6 -> {
                int n = random.nextInt(8) == 0 ? about(0, 40) : about(0, 4);
                same("hours " + n, round.hours(n), model.hours(n));
            }
            case 7 -> same("undo", round.undo(), model.undo());
            default -> actBeside();
        }
    }

    private void actBeside() {
        int slot = about(0, 2);
        switch (random.nextInt(6)) {
            case 0 -> same("hold", round.hold(slot), model.hold(slot));
            case 1 -> same("restore", round.restore(slot), model.restore(slot));
            case 2, 3, 4 -> {
                int sign = random.nextBoolean() ? about(1, 26) : about(1, 5);
                boolean has = random.nextBoolean();
                same("tell", round.tell(sign, has), model.tell(sign, has));
            }
            default -> {
                if (random.nextInt(4) == 0) {
                    same("forget", round.forget(), model.forget());
                }
            }
        }
    }

    private void look() {
        int a = somePicker();
        int b = somePicker();
        int piece = somePiece();
        int x = someX();
        int y = about(0, 7);
        int what = about(0, 1);
        int heap = about(0, 5);
        int n = about(0, 40);
        int k = about(0, Math.max(1, model.count(10)));
        switch (random.nextInt(24)) {
            case 0, 1, 2 -> lookAtPiece(piece);
            case 3, 4 -> lookAtPicker(a);
            case 5 -> same("lies", round.lies(x, y), model.lies(x, y));
            case 6 -> same("steps", round.steps(a, x, y), model.steps(a, x, y));
            case 7 -> same("round " + a, round.round(a, what), model.round(a, what));
            case 8 -> same("share", round.share(a, b), model.share(a, b));
            case 9 -> same("closest", round.closest(x, y), model.closest(x, y));
            case 10 -> same("richest", round.richest(what), model.richest(what));
            case 11 -> same("made", round.made(heap), model.made(heap));
            case 12 -> same("together", round.together(what), model.together(what));
            case 13 -> {
                int word = about(0, 7);
                same("missing", round.missing(word, heap), model.missing(word, heap));
            }
            case 14 -> same("longest", round.longest(heap), model.longest(heap));
            case 15 -> same("whole", round.whole(), model.whole());
            case 16 -> same("loss " + n, round.loss(n), model.loss(n));
            case 17 -> lookWhereToStand(a, what);
            case 18 -> same("late", round.late(), model.late());
            case 19 -> {
                int which = about(0, 2);
                same("pieceIn", round.pieceIn(piece, n, which), model.pieceIn(piece, n, which));
                same("pickerIn", round.pickerIn(a, n, which), model.pickerIn(a, n, which));
            }
            case 20 -> {
                int s = about(1, 20);
                same("year " + n + " " + s, round.year(n, s), model.year(n, s));
            }
            case 21 -> same("written " + k, round.written(k, what), model.written(k, what));
            case 22 -> same("ask " + k, round.ask(k), model.ask(k));
            default -> lookAtCounts();
        }
    }

    private void lookAtPiece(int piece) {
        for (int what = 0; what <= 7; what++) {
            same("piece " + piece + " " + what, round.piece(piece, what), model.piece(piece, what));
        }
    }

    private void lookAtPicker(int picker) {
        for (int what = 0; what <= 6; what++) {
            same("picker " + picker + " " + what, round.picker(picker, what), model.picker(picker, what));
        }
    }

    private void lookWhereToStand(int picker, int what) {
        int n = about(1, 12);
        if (random.nextInt(6) == 0) {
            same("stand " + picker + " " + n, round.stand(picker, n, what), model.stand(picker, n, what));
        }
    }

    private void lookAtCounts() {
        for (int what = -1; what <= 15; what++) {
            same("count " + what, round.count(what), model.count(what));
        }
    }
}
