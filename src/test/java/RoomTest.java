import java.lang.management.ManagementFactory;

/** All calls of one run live in one room: what an object makes is made once, and used again. */
public final class RoomTest {
    private static final Check CHECK = new Check();
    private static final com.sun.management.ThreadMXBean BEAN = (com.sun.management.ThreadMXBean) ManagementFactory.getThreadMXBean();
    private static final String TEXT = "letter abcdefgh 0 0; letter ab 2 1; picker p 5 4 1; picker q 1 1 3; word abc; word a; rain 50;"
            + "blows = if lain < which then 0 else sign - here; takes = sign * lain; pays = has + sign;";

    private static long allocated() {
        return BEAN.getCurrentThreadAllocatedBytes();
    }

    public static void main(String[] args) {
        run();
        long before = allocated();
        long sum = run();
        long bytes = allocated() - before;
        // 7.3 million elements are some 29 million bytes; a run should leave most of them.
        CHECK.same("a run of 512 calls takes less than 200,000 bytes, not " + bytes + " (" + sum + ")", bytes < 200000, true);
        long beforeNew = allocated();
        new ConfettiRound().count(0);
        long bytesNew = allocated() - beforeNew;
        CHECK.same("a new object takes less than 40,000 bytes, not " + bytesNew, bytesNew < 40000, true);
        CHECK.end();
    }

    private static long run() {
        ConfettiRound round = new ConfettiRound();
        Check.feed(round, TEXT);
        round.read();
        long sum = 0;
        for (int i = 0; i < 20; i++) {
            sum += round.stand(0, 12, 0) + round.year(40, 20) + round.loss(40) + round.late();
            sum += round.round(0, 0) + round.share(0, 1) + round.together(1) + round.made(4) + round.ask(0);
            sum += round.pieceIn(1, 40, 0) + round.pickerIn(1, 40, 0) + round.count(7) + round.count(6);
            sum += round.hours(1) + round.give(1, 0) + round.tell(1, true) + round.richest(0) + round.longest(5);
            sum += round.send(0, i % 10, 0) ? 1 : 0;
            sum += round.send(0, 9, 7) ? 1 : 0;
            sum += round.hold(i % 3) ? 1 : 0;
            sum += round.drop(i % 10) ? 1 : 0;
        }
        return sum;
    }
}
