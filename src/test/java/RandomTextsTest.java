import java.util.Random;

/** Random texts, good, spoilt and too long: FAULT and place as by the grammar itself. */
public final class RandomTextsTest {
    public static void main(String[] args) {
        Check check = new Check();
        int runs = args.length > 0 ? Integer.parseInt(args[0]) : 1500;
        Random random = new Random(1);
        TextMaker maker = new TextMaker(random);
        ConfettiRound round = new ConfettiRound();
        int[] seen = new int[6];
        for (int i = 0; i < runs && !check.isWrong(); i++) {
            String text = random.nextInt(4) == 0 ? maker.longText() : maker.text();
            if (random.nextInt(6) > 0) {
                text = maker.spoilt(text);
            }
            ModelText model = new ModelText(text);
            Check.feed(round, text);
            check.same("read() of " + text, round.read(), model.fault);
            check.same("place() of " + text, round.place(), model.place);
            seen[model.fault]++;
        }
        for (int fault : new int[] {0, 1, 2, 3, 5}) {
            check.same("texts with the fault " + fault + " were there", seen[fault] > runs / 100, true);
        }
        check.end();
    }
}
