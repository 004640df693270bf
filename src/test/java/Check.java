import java.nio.charset.StandardCharsets;
import java.util.Arrays;

/** Counts answers that are not as due, and feeds texts. */
final class Check {
    private int wrong = 0;
    private int looked = 0;

    void same(String what, long got, long want) {
        looked++;
        if (got != want) {
            wrong++;
            if (wrong <= 40) {
                System.out.println(shown(what) + " answered " + got + ", due is " + want);
            }
        }
    }

    void same(String what, boolean got, boolean want) {
        same(what, got ? 1 : 0, want ? 1 : 0);
    }

    private static String shown(String what) {
        return what.length() <= 300 ? what : what.substring(0, 150) + " .. " + what.substring(what.length() - 150);
    }

    boolean isWrong() {
        return wrong != 0;
    }

    void end() {
        System.out.println(wrong == 0 ? looked + " answers are as due" : wrong + " answers are not as due");
        if (wrong != 0) {
            System.exit(1);
        }
    }

    static void feed(ConfettiRound round, String text) {
        feed(round, text.getBytes(StandardCharsets.ISO_8859_1));
    }

    static void feed(ConfettiRound round, byte[] bytes) {
        int length = (bytes.length + 19) / 20 * 20;
        byte[] padded = Arrays.copyOf(bytes, length);
        for (int i = 0; i < length; i += 20) {
            round.feed(four(padded, i), four(padded, i + 4), four(padded, i + 8), four(padded, i + 12), four(padded, i + 16));
        }
        round.back(length - bytes.length);
    }

    private static int four(byte[] bytes, int at) {
        return (bytes[at] & 255) << 24 | (bytes[at + 1] & 255) << 16 | (bytes[at + 2] & 255) << 8 | bytes[at + 3] & 255;
    }

    /** A new object with this text in place. */
    ConfettiRound with(String text) {
        ConfettiRound round = new ConfettiRound();
        feed(round, text);
        same("read() of " + text, round.read(), 0);
        return round;
    }
}
