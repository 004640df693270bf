import java.util.ArrayList;
import java.util.List;

/** Terms, part IV, and promises 30 to 36: what is TOLD, SLOTS, counts. */
public final class EdgesOfToldTest {
    private static final Edges EDGES = new Edges();
    private static final int[] FAR = {Integer.MIN_VALUE, -100, -3, -2, -1, 100, Integer.MAX_VALUE};
    private static final String WORDS = "word ab; word bc; word ca; word abc;";
    private static final String YARD = "letter ab 4 4; letter bc 5 4; word ab; word z; word y; picker p 4 4 1; picker q 5 4 1; picker r 0 0 4; picker s 9 7 4; rain 60; seed 7;";

    public static void main(String[] args) {
        tell();
        forget();
        written();
        ask();
        hold();
        restore();
        count();
        countBits();
        countsThatStay();
        EDGES.end();
    }

    private static String[] told(int n, String... then) {
        List<String> rows = new ArrayList<>();
        for (int i = 0; i < n; i++) {
            rows.add("tell " + (1 + i % 26) + " " + (i % 3 == 0) + " = " + i);
        }
        rows.addAll(List.of(then));
        return rows.toArray(new String[0]);
    }

    private static void tell() {
        EDGES.edge("TOLD: 20 at most, numbered from 0 on", WORDS, told(19, "count 10 = 19", "tell 26 true = 19", "count 10 = 20", "tell 1 true ~ -1", "tell 26 false ~ -1", "tell 0 true ~ -1",
                "count 10 = 20"));
        EDGES.edge("30: SIGN 1 .. 26", WORDS, "tell 0 true ~ -1", "tell 27 true ~ -1", "tell 0 false ~ -1", "tell 27 false ~ -1", "tell 1 true = 0", "tell 26 false = 1", "tell 27 true ~ -1",
                "count 10 = 2");
        for (int far : FAR) {
            EDGES.edge("30: no such SIGN", WORDS, "tell " + far + " true ~ -1", "tell " + far + " false ~ -1", "tell 2 true = 0", "tell " + far + " true ~ -1");
        }
        EDGES.edge("30: the same again, and its opposite", WORDS, "tell 1 true = 0", "tell 1 true = 1", "tell 1 false = 2", "written 2 0 ~ 3", "written 3 0 ~ 0");
    }

    private static void forget() {
        EDGES.edge("31: how many there were", WORDS, "forget ~ 0", "tell 1 true = 0", "tell 2 true = 1", "forget = 2", "forget ~ 0", "count 10 = 0", "written 1 0 ~ -1", "tell 3 true = 0");
        EDGES.edge("31: twenty, then room again", WORDS, told(20, "forget = 20", "tell 3 false = 0", "written 1 1 ~ 1", "count 10 = 1"));
    }

    private static void written() {
        EDGES.edge("KNOWN by k: the first k", WORDS, "tell 1 true = 0", "tell 2 false = 1", "written 0 0 ~ 4", "written 0 1 ~ 15", "written 1 0 ~ 3", "written 1 1 ~ 13", "written 2 0 ~ 1",
                "written 2 1 ~ 4");
        EDGES.edge("32: no such k", WORDS, "written 1 0 ~ -1", "written 0 0 ~ 4", "tell 1 true = 0", "written 1 0 ~ 3", "written 2 0 ~ -1", "written 2 1 ~ -1");
        EDGES.edge("32: k 20, and 21", "word abc; word z;", told(20, "written 20 0 ~ 0", "written 20 1 ~ 0", "written 21 0 ~ -1", "written 19 0 ~ 0", "written 1 1 ~ 1"));
        EDGES.edge("32: no such what", WORDS, "written 0 2 ~ -1", "written 1 2 ~ -1");
        for (int far : FAR) {
            EDGES.edge("32: no such ones", WORDS, "tell 1 true = 0", "written " + far + " 0 ~ -1", "written 0 " + far + " ~ -1", "written " + far + " " + far + " ~ -1");
        }
        EDGES.edge("WRITTEN: none of them", WORDS, "tell 26 true = 0", "written 1 0 ~ 0", "written 1 1 ~ 0");
        EDGES.edge("WRITTEN: all of them", WORDS, "tell 26 false = 0", "written 1 0 ~ 4", "written 1 1 ~ 15");
        EDGES.edge("WRITTEN: no WORDS", "letter a 0 0;", "written 0 0 ~ 0", "written 0 1 ~ 0", "tell 1 true = 0", "written 1 0 ~ 0");
        EDGES.edge("WRITTEN: which (bits), the eighth", "word a; word b; word c; word d; word e; word f; word g; word abcdefgh;", "tell 8 true = 0", "written 1 1 ~ 128", "written 1 0 ~ 1",
                "written 0 1 ~ 255", "written 0 0 ~ 8");
        EDGES.edge("WRITTEN: a sign in the eighth place, in the first one", "word zaaaaaaa; word aaaaaaaz; word aaaaaaaa;", "tell 26 true = 0", "written 1 1 ~ 3");
    }

    private static void ask() {
        EDGES.edge("ASK: fewest are left, at worst", "word ab; word bc; word cd; word de; word bx;", "ask 0 ~ 2", "tell 2 true = 0", "ask 1 ~ 1", "tell 1 false = 1", "ask 2 ~ 3");
        EDGES.edge("ASK: of alike ones the first", "word yz; word xw;", "ask 0 ~ 23");
        EDGES.edge("ASK: has, or has not, alike", "word a; word b; word c;", "ask 0 ~ 1");
        EDGES.edge("ASK: z, the last SIGN", "word ab; word abz;", "ask 0 ~ 26");
        EDGES.edge("ASK: nothing parts them: the first SIGN", "word ab; word ba;", "ask 0 ~ 1");
        EDGES.edge("ASK: one is left: the first SIGN", "word z;", "ask 0 ~ 1");
        EDGES.edge("ASK: all eight, by half of them", "word z; word yz; word xz; word wz; word a; word b; word c; word d;", "ask 0 ~ 26");
        EDGES.edge("ASK: nothing parts all eight: the first SIGN", "word abcd; word abdc; word acbd; word acdb; word adbc; word adcb; word bacd; word badc;", "ask 0 ~ 1");
        EDGES.edge("ASK: one of eight", "word abcd; word abdc; word acbd; word acdb; word adbc; word adcb; word bacd; word bcd;", "ask 0 ~ 1", "tell 1 true = 0", "ask 1 ~ 1");
        EDGES.edge("33: none is left", WORDS, "tell 26 true = 0", "ask 1 ~ -2", "ask 0 ~ 1");
        EDGES.edge("33: none is left, no WORDS", "letter a 0 0;", "ask 0 ~ -2", "ask 1 ~ -1", "ask -1 ~ -1");
        EDGES.edge("33: no such k", WORDS, "ask 1 ~ -1", "tell 1 true = 0", "ask 1 ~ 2", "ask 2 ~ -1");
        EDGES.edge("33: k 20, and 21", "word abc; word z;", told(20, "ask 20 ~ -2", "ask 21 ~ -1"));
        for (int far : FAR) {
            EDGES.edge("33: no such k", WORDS, "tell 1 true = 0", "ask " + far + " ~ -1");
        }
    }

    private static void hold() {
        EDGES.edge("34: a SLOT (0 .. 2)", YARD, "hold 0 = true", "count 11 = 1", "hold 1 = true", "hold 2 = true", "count 11 = 3", "hold 3 ~ false", "hold -1 ~ false", "count 11 = 3");
        for (int far : FAR) {
            EDGES.edge("34: no such one", YARD, "hold " + far + " ~ false", "hold 1 = true", "hold " + far + " ~ false");
        }
        EDGES.edge("34: one that holds something holds this then", YARD, "hold 1 = true", "hours 2 = 2", "hold 1 = true", "count 11 = 1", "hours 1 = 3", "restore 1 = true", "count 4 = 2");
        EDGES.edge("34: it is no thing done", YARD, "hours 1 = 1", "hold 1 = true", "count 9 = 1", "undo = true", "count 4 = 0", "undo ~ false", "restore 1 = true", "count 4 = 1");
        EDGES.edge("34: held is held, whatever goes on", YARD, "hold 0 = true", "hours 3 = 3", "drop 0 = true", "send 3 0 0 = true", "give 0 1 = 0", "restore 0 = true", "count 4 = 0",
                "count 5 = 4", "count 13 = 0", "picker 0 3 = 0", "picker 1 3 = 0", "piece 0 5 = 0");
        EDGES.edge("34: not what is TOLD", YARD, "tell 1 true = 0", "hold 0 = true", "tell 2 true = 1", "restore 0 = true", "count 10 = 2", "forget = 2", "restore 0 = true", "count 10 = 0");
        EDGES.edge("34: nor the tape", YARD, "tape:word a;", "hold 0 = true", "back 2 = 5", "restore 0 = true", "count 8 = 5", "tape:b;", "read = 0", "restore 0 ~ false");
    }

    private static void restore() {
        EDGES.edge("35: nothing is held", YARD, "restore 0 ~ false", "restore 1 ~ false", "restore 2 ~ false", "hours 1 = 1", "hold 1 = true", "restore 0 ~ false", "restore 2 ~ false",
                "restore 1 = true");
        EDGES.edge("35: no such one", YARD, "hold 0 = true", "hold 2 = true", "restore 3 ~ false", "restore -1 ~ false");
        for (int far : FAR) {
            EDGES.edge("35: no such one", YARD, "hours 1 = 1", "hold 0 = true", "restore " + far + " ~ false");
        }
        EDGES.edge("35: that stays there", YARD, "hours 1 = 1", "hold 2 = true", "hours 5 = 6", "restore 2 = true", "count 4 = 1", "hours 7 = 8", "restore 2 = true", "count 4 = 1", "count 11 = 1");
        EDGES.edge("35: nothing can be undone then", YARD, "hours 1 = 1", "hold 0 = true", "hours 1 = 2", "restore 0 = true", "count 9 = 0", "undo ~ false");
        EDGES.edge("35: nothing can be undone, though nothing else is new", YARD, "hours 1 = 1", "hold 0 = true", "restore 0 = true", "count 9 = 0", "undo ~ false", "hours 1 = 2", "undo = true",
                "count 4 = 1", "undo ~ false");
        EDGES.edge("35: a refused one leaves what can be undone", YARD, "hours 1 = 1", "hours 1 = 2", "restore 0 ~ false", "restore 3 ~ false", "count 9 = 2", "undo = true");
        EDGES.edge("35: goals, HATS, what lies, lain, the hour", YARD, "send 0 0 0 = true", "hours 2 = 2", "hold 0 = true", "drop 1 = true", "send 0 -1 0 = true", "hours 9 = 11", "restore 0 = true",
                "count 4 = 2", "picker 0 0 = 2", "picker 0 1 = 4", "picker 0 4 = 0", "picker 0 5 = 0", "piece 0 5 = 2", "piece 1 4 = 1", "count 5 = 3");
        EDGES.edge("35: one out of another", YARD, "hold 0 = true", "hours 1 = 1", "hold 1 = true", "restore 0 = true", "hours 4 = 4", "hold 0 = true", "restore 1 = true", "count 4 = 1",
                "restore 0 = true", "count 4 = 4");
        EDGES.edge("35: not behind a new text", YARD, "hold 0 = true", "tape:word a;", "read = 0", "restore 0 ~ false", "count 11 = 0", "hold 1 = true", "restore 0 ~ false", "restore 1 = true");
        EDGES.edge("35: still behind a text with a FAULT", YARD, "hours 2 = 2", "hold 0 = true", "hours 1 = 3", "tape:word", "read = 1", "restore 0 = true", "count 4 = 2", "count 1 = 4");
    }

    private static void counts(String sentence, String[] rows, int... due) {
        List<String> all = new ArrayList<>(List.of(rows));
        for (int what = 0; what < due.length; what++) {
            all.add("count " + what + " ~ " + due[what]);
        }
        all.add("count 15 ~ -1");
        all.add("count -1 ~ -1");
        EDGES.edge(sentence, YARD, all.toArray(new String[0]));
    }

    /** LOT 100 of the SEED 7 in the hours 0 to 4: 80, 80, 91, 50, 11. */
    private static void count() {
        counts("36: at first", new String[0], 2, 4, 3, 4, 0, 4, 3, 0, 0, 0, 0, 0, 0, 0, 0);
        counts("36: later on", new String[] {"hours 3 = 3", "send 3 0 0 = true", "send 1 0 0 = true", "feed 1 2 3 4 5 = 20", "tell 3 false = 0", "hold 0 = true"},
                2, 4, 3, 4, 3, 2, 2, 2, 20, 3, 1, 1, 1, 10, 3);
        counts("36: all got up", new String[] {"hours 1 = 1", "give 0 2 = 1", "give 1 3 = 1", "hours 1 = 2", "send 0 6 4 = true", "give 0 2 = 0", "give 1 2 = 1", "hours 1 = 3"},
                2, 4, 3, 4, 3, 1, 1, 3, 0, 8, 0, 0, 1, 1, 0);
        for (int far : FAR) {
            EDGES.edge("36: NONE for others", YARD, "count " + far + " ~ -1");
        }
        EDGES.edge("36: NONE for others", YARD, "count 15 ~ -1");
    }

    private static void countBits() {
        String text = "letter a 0 0; letter b 1 0; picker p 0 0 1; picker q 1 0 2; picker r 2 0 1; picker s 3 0 1; pays = 10*which + 5;";
        EDGES.edge("36: PICKERS who have a goal (bits)", text, "send 3 9 7 = true", "count 13 ~ 8", "send 0 1 1 = true", "count 13 ~ 9", "send 1 1 1 = true", "send 2 1 1 = true", "count 13 ~ 15",
                "hours 1 = 1", "count 13 ~ 13", "hours 1 = 2", "count 13 ~ 8", "hours 40 = 42", "count 13 ~ 0");
        EDGES.edge("36: PICKERS whose HATS are full (bits)", text, "count 14 ~ 0", "hours 1 = 1", "count 14 ~ 1", "give 0 1 = 1", "count 14 ~ 2", "give 1 3 = 1", "count 14 ~ 8", "give 1 2 = 1",
                "count 14 ~ 12");
        EDGES.edge("36: OWED to all, together", text, "count 7 ~ 0", "hours 1 = 1", "count 7 ~ 20", "give 0 3 = 1", "count 7 ~ 50", "drop 0 = true", "count 7 ~ 15");
        EDGES.edge("36: how many PIECES lie, at how many cells", "letter aa 0 0; letter b 0 0; picker p 0 0 1;", "count 5 ~ 3", "count 6 ~ 2", "hours 1 = 1", "count 5 ~ 2", "count 6 ~ 2",
                "send 0 1 0 = true", "hours 1 = 2", "drop 0 = true", "count 5 ~ 3", "count 6 ~ 2");
        EDGES.edge("36: nothing lies", "letter a 0 0; picker p 0 0 1;", "hours 1 = 1", "count 5 ~ 0", "count 6 ~ 0");
        EDGES.edge("36: 1 RAIN in this hour", "rain 60; seed 7;", "count 12 ~ 0", "hours 3 = 3", "count 12 ~ 1", "undo = true", "count 12 ~ 0");
    }

    private static void countsThatStay() {
        EDGES.edge("36: things that can be undone, 40 at most", YARD, done(39, "count 9 ~ 39", "hours 1 = 40", "count 9 ~ 40", "hours 1 = 41", "count 9 ~ 40", "undo = true", "count 9 ~ 39",
                "hours 1 = 41", "count 9 ~ 40"));
        EDGES.edge("36: bytes on the tape, 2,000 at most", YARD, "tape:" + " ".repeat(1999), "count 8 ~ 1999", "tape:" + " ".repeat(20), "count 8 ~ 1999");
        EDGES.edge("36: SLOTS that hold something", YARD, "count 11 ~ 0", "hold 2 = true", "count 11 ~ 1", "hold 2 = true", "count 11 ~ 1", "hold 0 = true", "count 11 ~ 2", "restore 0 = true",
                "count 11 ~ 2", "hold 1 = true", "count 11 ~ 3");
    }

    private static String[] done(int n, String... then) {
        List<String> rows = new ArrayList<>();
        for (int i = 1; i <= n; i++) {
            rows.add("hours 1 = " + i);
        }
        rows.addAll(List.of(then));
        return rows.toArray(new String[0]);
    }
}
