import java.util.ArrayList;
import java.util.List;

/** Terms, part III, and promises 14 to 29: what would be, while nothing happens. */
public final class EdgesOfLooksTest {
    private static final Edges EDGES = new Edges();
    private static final int[] FAR = {Integer.MIN_VALUE, -100, -3, -2, -1, 100, Integer.MAX_VALUE};
    private static final String TEN = "letter abcdefgh 0 0; letter ij 8 0; ";
    private static final String ELEVEN = TEN + "letter k 5 5; ";

    public static void main(String[] args) {
        steps();
        round();
        roundFirst();
        share();
        closest();
        richest();
        made();
        together();
        missing();
        longest();
        whole();
        loss();
        stand();
        standOfAlikeOnes();
        late();
        pieceIn();
        pickerIn();
        year();
        EDGES.end();
    }

    /** Each argument in turn is put far off, the others staying as they are in a call that is good. */
    private static void farOff(String sentence, String text, String call, int... good) {
        List<String> rows = new ArrayList<>();
        for (int i = 0; i < good.length; i++) {
            for (int far : FAR) {
                StringBuilder row = new StringBuilder(call);
                for (int k = 0; k < good.length; k++) {
                    row.append(' ').append(k == i ? far : good[k]);
                }
                rows.add(row + " ~ -1");
            }
        }
        EDGES.edge(sentence, text, rows.toArray(new String[0]));
    }

    private static void steps() {
        String text = "picker p 4 4 2; picker q 0 0 1; picker r 9 7 1;";
        EDGES.edge("STEPS: X apart and Y apart, added", text, "steps 0 4 4 ~ 0", "steps 0 5 4 ~ 1", "steps 0 3 4 ~ 1", "steps 0 4 3 ~ 1", "steps 0 4 5 ~ 1",
                "steps 0 9 0 ~ 9", "steps 0 0 7 ~ 7", "steps 1 9 7 ~ 16", "steps 2 0 0 ~ 16", "steps 1 0 7 ~ 7", "steps 1 9 0 ~ 9");
        EDGES.edge("14: from where he is, not from his goal", text, "send 0 9 7 = true", "steps 0 4 4 ~ 0", "hours 1 = 1", "steps 0 4 4 ~ 1");
        EDGES.edge("14: no such ones", text, "steps 3 0 0 ~ -1", "steps 0 10 0 ~ -1", "steps 0 0 8 ~ -1", "steps 0 8 9 ~ -1");
        farOff("14: no such ones", text, "steps", 0, 0, 0);
    }

    private static void round() {
        EDGES.edge("ROUND: his own needs none", "letter a 4 4; picker p 4 4 1;", "round 0 0 ~ 0", "round 0 1 ~ -2");
        EDGES.edge("ROUND: nothing lies", "picker p 4 4 1;", "round 0 0 ~ 0", "round 0 1 ~ -2");
        EDGES.edge("ROUND: nothing lies, and he is in the first corner", "picker p 0 0 1;", "round 0 0 ~ 0", "round 0 1 ~ -2");
        EDGES.edge("ROUND: nothing lies where he was to go", "letter a 4 4; picker p 3 4 1;", "round 0 1 ~ 44", "send 0 4 4 = true", "hours 1 = 1", "round 0 1 ~ -2");
        EDGES.edge("ROUND: nothing lies any more", "letter a 4 4; picker p 4 4 1;", "hours 1 = 1", "round 0 0 ~ 0", "round 0 1 ~ -2");
        EDGES.edge("ROUND: 10 such cells", TEN + "picker p 0 1 1;", "count 6 = 10", "round 0 0 ~ 10", "round 0 1 ~ 0");
        EDGES.edge("ROUND: 10 such cells at most, his own not counted", ELEVEN + "picker p 0 0 1;", "count 6 = 11", "round 0 0 ~ 18", "round 0 1 ~ 1");
        EDGES.edge("15: more than 10 cells", ELEVEN + "picker p 0 1 1;", "round 0 0 ~ -3", "round 0 1 ~ -3");
        EDGES.edge("15: more than 10 cells, wrong ones all the same", ELEVEN + "picker p 0 1 1;", "round 0 2 ~ -1", "round 0 -1 ~ -1", "round 1 0 ~ -1");
        EDGES.edge("15: more than 10 cells, 12 with his own", ELEVEN + "letter l 6 6; picker p 0 0 1;", "round 0 0 ~ -3");
        EDGES.edge("15: more than 10 cells: 32", "letter abcdefgh 0 0; letter bcdefghi 0 1; letter cdefghij 0 2; letter defghijk 0 3; picker p 0 0 9;", "round 0 0 ~ -3");
        EDGES.edge("ROUND: cells, not PIECES", "letter abcdefgh 0 0; letter bcdefghi 0 0; letter c 0 0; picker p 9 0 1;", "count 1 = 17", "round 0 0 ~ 9", "round 0 1 ~ 7");
        EDGES.edge("ROUND: where PIECES lie now", TEN + "letter k 0 2; picker p 9 1 1; picker q 5 5 1;", "round 1 0 ~ -3", "send 0 9 0 = true", "hours 1 = 1", "round 1 0 ~ 18");
        EDGES.edge("ROUND: nothing being blown", "letter a 4 4; picker p 0 4 1; blows = 1;", "round 0 0 ~ 4", "round 0 1 ~ 44");
        EDGES.edge("ROUND: HAT not looked at", "letter ab 4 4; letter c 6 4; picker p 3 4 1;", "round 0 0 ~ 3", "send 0 4 4 = true", "hours 1 = 1", "count 14 = 1", "round 0 0 ~ 2");
        EDGES.edge("ROUND: the fewest STEPS, not the nearest first", "letter a 3 0; letter b 5 0; letter c 9 0; picker p 4 0 1;", "round 0 0 ~ 7", "round 0 1 ~ 3");
        EDGES.edge("ROUND: the fewest STEPS, the farther side last", "letter a 2 0; letter b 5 0; letter c 7 0; picker p 4 0 1;", "round 0 0 ~ 7", "round 0 1 ~ 2");
        EDGES.edge("ROUND: he need not come back", "letter a 9 7; picker p 0 0 1;", "round 0 0 ~ 16", "round 0 1 ~ 79");
        EDGES.edge("ROUND: his goal is not looked at", "letter a 9 7; picker p 0 0 1;", "send 0 0 7 = true", "round 0 0 ~ 16");
        farOff("15: no such ones", "letter a 0 0; picker p 4 4 1;", "round", 0, 0);
        EDGES.edge("15: no such ones", "letter a 0 0; picker p 4 4 1;", "round 1 0 ~ -1", "round 0 2 ~ -1");
    }

    private static void roundFirst() {
        String sentence = "ROUND: the first of these cells to go to, of alike ones the lowest Y, then X";
        EDGES.edge(sentence, "letter a 4 3; letter b 3 4; letter c 5 4; letter d 4 5; picker p 4 4 1;", "round 0 0 ~ 7", "round 0 1 ~ 34");
        EDGES.edge(sentence, "letter b 3 4; letter c 5 4; picker p 4 4 1;", "round 0 0 ~ 3", "round 0 1 ~ 43");
        EDGES.edge(sentence, "letter b 4 3; letter c 4 5; picker p 4 4 1;", "round 0 1 ~ 34");
        EDGES.edge(sentence, "letter a 9 3; letter b 0 4; picker p 5 3 1; picker q 4 4 1;", "round 0 0 ~ 14", "round 0 1 ~ 39", "round 1 0 ~ 14", "round 1 1 ~ 40");
        EDGES.edge(sentence + ": Y ahead of X", "letter a 5 3; letter b 3 5; picker p 4 4 1;", "round 0 0 ~ 6", "round 0 1 ~ 35");
        EDGES.edge(sentence + ": not his own", "letter a 4 4; letter b 5 4; letter c 9 4; picker p 4 4 1;", "round 0 0 ~ 5", "round 0 1 ~ 45");
        EDGES.edge(sentence + ": one of two ways alike", "letter a 0 3; letter b 0 4; letter c 0 7; picker p 0 5 1;", "round 0 0 ~ 6", "round 0 1 ~ 30");
    }

    private static void share() {
        EDGES.edge("SHARE: nothing lies", "picker p 0 7 1; picker q 9 0 1;", "share 0 1 ~ 0", "share 1 0 ~ 0");
        EDGES.edge("SHARE: 10 at most", TEN + "picker p 0 0 1; picker q 9 0 1;", "share 0 1 ~ 4", "share 1 0 ~ 4");
        EDGES.edge("SHARE: 10 at most, where nobody is", TEN + "picker p 0 1 1; picker q 9 1 1;", "share 0 1 ~ 5", "share 1 0 ~ 5");
        EDGES.edge("16: more than 10 cells", ELEVEN + "picker p 0 1 1; picker q 9 1 1;", "share 0 1 ~ -3", "share 1 0 ~ -3");
        EDGES.edge("16: more than 10 cells, all that PIECES lie at", ELEVEN + "picker p 0 0 1; picker q 5 5 1;", "share 0 1 ~ -3");
        EDGES.edge("16: more than 10 cells, wrong ones all the same", ELEVEN + "picker p 0 1 1; picker q 9 1 1;", "share 0 0 ~ -1", "share 0 2 ~ -1", "share 2 0 ~ -1");
        EDGES.edge("SHARE: the greater of both ROUNDS is least", "letter a 0 0; letter b 9 0; picker p 1 0 1; picker q 7 0 1;", "share 0 1 ~ 2");
        EDGES.edge("SHARE: all to one", "letter a 0 0; letter b 2 0; picker p 1 0 1; picker q 9 7 1;", "share 0 1 ~ 3", "share 1 0 ~ 3");
        EDGES.edge("SHARE: both at one cell", "letter a 0 0; letter b 8 0; picker p 4 0 1; picker q 4 0 1;", "share 0 1 ~ 4");
        EDGES.edge("SHARE: his own needs none", "letter a 0 0; letter b 0 3; picker p 0 0 1; picker q 0 2 1;", "share 0 1 ~ 1");
        EDGES.edge("SHARE: an own cell of each alone", "letter a 0 0; letter b 9 7; picker p 0 0 1; picker q 9 7 1;", "share 0 1 ~ 0");
        EDGES.edge("SHARE: of two PICKERS, others beside", "letter a 9 7; picker p 0 0 1; picker q 9 6 1; picker r 9 7 1;", "share 0 1 ~ 1", "share 0 2 ~ 0");
        EDGES.edge("16: one and the same", "letter a 0 0; picker p 0 0 1; picker q 1 1 1;", "share 0 0 ~ -1", "share 1 1 ~ -1", "share 2 2 ~ -1");
        farOff("16: no such ones", "letter a 0 0; picker p 0 0 1; picker q 1 1 1;", "share", 0, 1);
    }

    private static void closest() {
        String text = "picker p 0 0 1; picker q 4 0 1; picker r 4 0 1; picker s 9 7 1;";
        EDGES.edge("CLOSEST: of alike ones the first", text, "closest 2 0 ~ 0", "closest 3 0 ~ 1", "closest 4 0 ~ 1", "closest 9 7 ~ 3", "closest 0 0 ~ 0", "closest 9 0 ~ 1",
                "closest 0 7 ~ 0");
        EDGES.edge("CLOSEST: as far as can be", "picker p 0 0 1;", "closest 9 7 ~ 0");
        EDGES.edge("17: no PICKERS", "letter a 0 0;", "closest 0 0 ~ -2", "closest 9 7 ~ -2");
        EDGES.edge("17: no such cell, no PICKERS", "letter a 0 0;", "closest 10 0 ~ -1", "closest 0 8 ~ -1", "closest -1 0 ~ -1", "closest 0 -1 ~ -1");
        EDGES.edge("17: no such cell", text, "closest 10 7 ~ -1", "closest 9 8 ~ -1", "closest 8 9 ~ -1");
        farOff("17: no such cell", text, "closest", 0, 0);
    }

    private static void richest() {
        EDGES.edge("RICHEST: of alike ones the lowest Y", "letter a 0 5; letter b 9 4;", "richest 0 ~ 49", "richest 1 ~ 1");
        EDGES.edge("RICHEST: of alike ones the lowest Y, then X", "letter ab 3 5;", "richest 0 ~ 53", "richest 1 ~ 1");
        EDGES.edge("RICHEST: most PIECES", "letter a 0 0; letter b 9 7; letter c 9 7;", "richest 0 ~ 79", "richest 1 ~ 2");
        EDGES.edge("RICHEST: what is in HATS does not count", "letter a 0 0; letter b 9 7; letter c 9 7; picker p 9 7 9;", "hours 1 = 1", "richest 0 ~ 0", "richest 1 ~ 1");
        EDGES.edge("RICHEST: all 32", "letter abcdefgh 0 0; letter bcdefghi 0 0; letter cdefghij 0 0; letter defghijk 0 0; blows = 1; wind -2 0;", "richest 0 ~ 0", "richest 1 ~ 4",
                "hours 4 = 4", "richest 0 ~ 0", "richest 1 ~ 32");
        EDGES.edge("18: nothing lies", "letter a 0 0; picker p 0 0 1;", "richest 0 ~ 0", "hours 1 = 1", "richest 0 ~ -2", "richest 1 ~ -2");
        EDGES.edge("18: NONE for others", "letter a 0 0;", "richest 2 ~ -1", "richest 0 = 0");
        farOff("18: NONE for others", "letter a 0 0;", "richest", 0);
        EDGES.edge("18: NONE for others, though nothing lies", "picker p 0 0 1;", "richest 2 ~ -1", "richest -1 ~ -1");
    }

    private static final String HEAPS = "letter noon 0 0; letter on 4 0; picker p 0 0 1; picker q 4 0 9; picker r 1 0 9;"
            + "word no; word noon; word onon; word ooo; word nnno; word oooo; word nonono; word z;";

    private static void made() {
        EDGES.edge("MAKES: each sign there as often as it is in the WORD", HEAPS, "made 5 ~ 95", "made 4 ~ 95");
        EDGES.edge("MAKES: one sign less", "letter aab 0 0; word aab; word ab; word aaab; word aabb; word b; word c;", "made 5 ~ 19");
        EDGES.edge("HEAPS: 0 .. 3 what is in the HAT of that PICKER", HEAPS, "made 0 ~ 0", "made 1 ~ 0", "made 2 ~ 0", "hours 1 = 1", "give 0 1 = 1", "give 2 1 = 1", "picker 1 3 = 3",
                "made 1 ~ 1", "made 0 ~ 0", "made 2 ~ 0", "made 4 ~ 1", "made 5 ~ 95");
        EDGES.edge("HEAPS: 3, the fourth HAT", "letter a 0 0; word a; picker p 9 0 1; picker q 9 0 1; picker r 9 0 1; picker s 0 0 1;", "made 3 ~ 0", "hours 1 = 1", "made 3 ~ 1",
                "made 2 ~ 0", "made 4 ~ 0");
        EDGES.edge("HEAPS: 4, nothing lies", "letter a 0 0; word a; picker p 0 0 1;", "made 4 ~ 1", "hours 1 = 1", "made 4 ~ 0", "made 5 ~ 1");
        EDGES.edge("19: bits, the eighth WORD", "letter z 0 0; word a; word b; word c; word d; word e; word f; word g; word z;", "made 5 ~ 128");
        EDGES.edge("19: no WORDS", "letter z 0 0;", "made 5 ~ 0");
        EDGES.edge("19: no such heap (a HAT of nobody, too)", HEAPS, "made 3 ~ -1", "made 6 ~ -1");
        farOff("19: no such heap", HEAPS, "made", 5);
    }

    private static void together() {
        EDGES.edge("TOGETHER: the set, of alike ones the least bits", HEAPS, "together 0 ~ 2", "together 1 ~ 3");
        EDGES.edge("TOGETHER: the least bits, not the first WORDS", "letter abc 0 0; word abc; word a; word b; word c;", "together 0 ~ 3", "together 1 ~ 14");
        EDGES.edge("TOGETHER: the least bits", "letter ab 0 0; word a; word ab; word aa; word b;", "together 0 ~ 2", "together 1 ~ 9");
        EDGES.edge("TOGETHER: the least bits: 6 ahead of 9", "letter ab 0 0; word a; word ba; word b;", "together 1 ~ 5");
        EDGES.edge("TOGETHER: the least bits: 6 ahead of 9", "letter abcd 0 0; word abc; word ab; word cd; word d;", "together 0 ~ 2", "together 1 ~ 6");
        EDGES.edge("TOGETHER: each PIECE in one at most", "letter aa 0 0; word a; word aa; word ab;", "together 0 ~ 1", "together 1 ~ 1");
        EDGES.edge("TOGETHER: of all PIECES, in HATS, too", "letter ab 0 0; word a; word b; picker p 0 0 1;", "together 1 ~ 3", "hours 1 = 1", "together 1 ~ 3", "together 0 ~ 2");
        EDGES.edge("TOGETHER: none", "letter a 0 0; word b;", "together 0 ~ 0", "together 1 ~ 0");
        EDGES.edge("TOGETHER: no WORDS, no PIECES", "letter a 0 0;", "together 0 ~ 0", "together 1 ~ 0");
        EDGES.edge("TOGETHER: all eight", "letter abcdefgh 0 0; word h; word g; word f; word e; word d; word c; word b; word a;", "together 0 ~ 8", "together 1 ~ 255");
        EDGES.edge("20: NONE for others", HEAPS, "together 2 ~ -1");
        farOff("20: NONE for others", HEAPS, "together", 0);
    }

    private static void missing() {
        EDGES.edge("MISSING: how many signs more are needed", HEAPS, "missing 6 5 ~ 0", "missing 6 4 ~ 0", "missing 6 0 ~ 6", "missing 5 5 ~ 1", "missing 7 5 ~ 1", "missing 4 5 ~ 0",
                "hours 1 = 1", "missing 4 0 ~ 3", "missing 3 0 ~ 3", "missing 3 2 ~ 2", "missing 6 4 ~ 3", "missing 6 5 ~ 0");
        EDGES.edge("MISSING: a sign as often as it lacks", "letter a 0 0; word aaaaaaaa; word bbbbbbbb;", "missing 0 5 ~ 7", "missing 1 5 ~ 8");
        EDGES.edge("MISSING: more are there than needed", "letter aaaa 0 0; word a; word ab;", "missing 0 5 ~ 0", "missing 1 5 ~ 1");
        EDGES.edge("21: no such ones", HEAPS, "missing 8 5 ~ -1", "missing 0 3 ~ -1", "missing 0 6 ~ -1", "missing 8 6 ~ -1");
        EDGES.edge("21: no such WORD, fewer than eight", "letter a 0 0; word a; picker p 0 0 1;", "missing 0 0 ~ 1", "missing 1 0 ~ -1", "missing 0 1 ~ -1");
        farOff("21: no such ones", HEAPS, "missing", 0, 5);
    }

    private static void longest() {
        EDGES.edge("LONGEST: the WORD with most signs", HEAPS, "longest 5 ~ 6", "longest 4 ~ 6");
        EDGES.edge("LONGEST: of alike ones the first", "letter abcd 0 0; word a; word bc; word ab; word cd; word abcde;", "longest 5 ~ 1");
        EDGES.edge("LONGEST: one sign", "letter a 0 0; word a; word b;", "longest 5 ~ 0");
        EDGES.edge("LONGEST: the last WORD", "letter abc 0 0; word a; word ab; word abc;", "longest 5 ~ 2");
        EDGES.edge("LONGEST: eight signs", "letter abcdefgh 0 0; word abcdefg; word hgfedcba; word abcdefgh;", "longest 5 ~ 1");
        EDGES.edge("22: none", HEAPS, "longest 0 ~ -2", "hours 1 = 1", "longest 0 ~ -2");
        EDGES.edge("22: none, no WORDS", "letter a 0 0;", "longest 5 ~ -2");
        EDGES.edge("22: no such heap", HEAPS, "longest 3 ~ -1", "longest 6 ~ -1");
        farOff("22: no such heap", HEAPS, "longest", 5);
    }

    private static void whole() {
        String text = "letter ab 0 0; letter c 2 0; letter d 5 5; letter e 6 5; picker p 0 0 9; picker q 1 0 9; picker r 2 0 9;";
        EDGES.edge("WHOLE: all PIECES of which are in HATS, whosever", text, "whole ~ 0", "hours 1 = 1", "whole ~ 3", "drop 1 = true", "whole ~ 2", "drop 0 = true", "whole ~ 2", "undo = true",
                "undo = true", "whole ~ 3");
        EDGES.edge("WHOLE: bits, the fourth LETTER", "letter a 0 0; letter b 1 0; letter c 2 0; letter d 3 0; picker p 3 0 1;", "hours 1 = 1", "whole ~ 8");
        EDGES.edge("WHOLE: all four", "letter a 0 0; letter b 0 0; letter c 0 0; letter d 0 0; picker p 0 0 4;", "hours 1 = 1", "whole ~ 15");
        EDGES.edge("WHOLE: no LETTERS", "word a; picker p 0 0 1;", "whole ~ 0");
    }

    private static void loss() {
        EDGES.edge("LOSS: 0: now", "letter ab 0 0; takes = 7;", "loss 0 ~ 14");
        EDGES.edge("LOSS: TAKES of all that lie then", "letter ab 0 0; picker p 0 0 1; takes = 10*sign + lain + hour;", "loss 0 ~ 30", "loss 1 ~ 22", "loss 2 ~ 24", "hours 1 = 1", "loss 0 ~ 22",
                "loss 1 ~ 24");
        EDGES.edge("LOSS: here, as it is then", "letter ab 7 0; letter c 7 0; takes = here; blows = 1; rain 100;", "loss 0 ~ 5", "loss 1 ~ 5", "loss 2 ~ 9", "hours 1 = 1", "loss 0 ~ 5", "loss 3 ~ 9");
        EDGES.edge("LOSS: here, once some are picked up", "letter ab 7 0; letter c 7 0; picker p 7 0 1; takes = here;", "loss 0 ~ 5", "loss 1 ~ 2", "hours 1 = 1", "loss 0 ~ 2");
        EDGES.edge("LOSS: as PICKERS go", "letter ab 0 0; picker p 3 0 9; takes = sign;", "loss 40 ~ 3", "send 0 0 0 = true", "loss 1 ~ 3", "loss 2 ~ 1", "loss 3 ~ 0", "loss 40 ~ 0");
        EDGES.edge("LOSS: in 40 HOURS", "letter a 0 0; takes = hour;", "loss 39 ~ 39", "loss 40 ~ 40", "hours 40 = 40", "loss 40 ~ 80");
        EDGES.edge("LOSS: as it is blown, without RAIN", "letter a 0 0; takes = across; blows = 1; rain 100;", "loss 0 ~ 0", "loss 3 ~ 3", "loss 40 ~ 9");
        EDGES.edge("LOSS: nothing lies", "letter a 0 0; picker p 0 0 1; takes = 50;", "loss 0 ~ 50", "loss 1 ~ 0", "hours 1 = 1", "loss 0 ~ 0", "loss 40 ~ 0");
        EDGES.edge("LOSS: 32 PIECES at most of all", "letter abcdefgh 0 0; letter bcdefghi 0 0; letter cdefghij 0 0; letter defghijk 0 0; takes = 9999;", "loss 0 ~ 3168", "loss 40 ~ 3168");
        EDGES.edge("24: no such n", "letter a 0 0;", "loss 41 ~ -1");
        farOff("24: no such n", "letter a 0 0;", "loss", 0);
    }

    private static void stand() {
        String text = "letter ab 4 4; letter c 9 7; picker p 2 4 9; takes = sign; rain 100;";
        EDGES.edge("STAND: n HOURS (1 .. 12)", text, "stand 0 1 0 ~ 0", "stand 0 1 1 ~ 6", "stand 0 2 1 ~ 5", "stand 0 3 1 ~ 3", "stand 0 3 0 ~ 5", "stand 0 9 1 ~ 3", "stand 0 10 1 ~ 0",
                "stand 0 10 0 ~ 79", "stand 0 12 1 ~ 0", "stand 0 12 0 ~ 79");
        EDGES.edge("STAND: no such n", text, "stand 0 0 0 ~ -1", "stand 0 0 1 ~ -1", "stand 0 13 0 ~ -1", "stand 0 13 1 ~ -1");
        EDGES.edge("25: no such ones", text, "stand 1 1 0 ~ -1", "stand 0 1 2 ~ -1", "stand 1 13 2 ~ -1");
        farOff("25: no such ones", text, "stand", 0, 1, 0);
        EDGES.edge("STAND: without RAIN", "letter a 4 4; picker p 6 4 1; blows = 1; rain 100;", "stand 0 2 1 ~ 0", "stand 0 2 0 ~ 45", "hours 2 = 2", "piece 0 2 = 4");
        EDGES.edge("STAND: others as they go", "letter a 4 4; letter b 0 0; picker p 9 7 1; picker q 5 4 1; takes = sign;", "stand 0 1 1 ~ 3", "send 1 4 4 = true", "stand 0 1 1 ~ 2",
                "stand 0 1 0 ~ 0");
        EDGES.edge("STAND: his own goal is not looked at", "letter a 4 4; picker p 5 4 1;", "send 0 9 7 = true", "stand 0 1 1 ~ 0", "stand 0 1 0 ~ 0", "picker 0 4 = 9", "picker 0 5 = 7");
        EDGES.edge("STAND: to a cell, none beyond the yard", "letter ab 0 7; letter cd 0 7; letter e 0 6; letter f 0 6; picker p 0 7 1; takes = if here<2 then 50 else 0;", "stand 0 1 0 ~ 0",
                "stand 0 1 1 ~ 50");
        EDGES.edge("STAND: his HAT is full", "letter ab 4 4; picker p 4 4 1; takes = sign;", "hours 1 = 1", "stand 0 12 1 ~ 2", "stand 0 12 0 ~ 0");
        EDGES.edge("STAND: 32 PIECES, none to be had", "letter abcdefgh 0 0; letter bcdefghi 0 0; letter cdefghij 0 0; letter defghijk 0 0; picker p 9 7 1; takes = 99;", "stand 0 1 1 ~ 3168",
                "stand 0 1 0 ~ 0", "stand 0 8 1 ~ 3168", "stand 0 9 1 ~ 3069");
    }

    private static void standOfAlikeOnes() {
        String sentence = "STAND: of alike ones the lowest Y, then X";
        EDGES.edge(sentence + ": nothing lies", "picker p 4 4 1;", "stand 0 1 0 ~ 0", "stand 0 1 1 ~ 0", "stand 0 12 0 ~ 0");
        EDGES.edge(sentence + ": his own cell alone", "letter a 4 4; picker p 4 4 1;", "stand 0 1 0 ~ 44", "stand 0 1 1 ~ 0");
        EDGES.edge(sentence + ": the next one to the right, by any cell beyond it", "letter a 5 4; picker p 4 4 1;", "stand 0 1 1 ~ 0", "stand 0 1 0 ~ 5");
        EDGES.edge(sentence + ": the next one up", "letter a 4 3; picker p 4 4 1;", "stand 0 1 1 ~ 0", "stand 0 1 0 ~ 4");
        EDGES.edge(sentence + ": the next one down, by his own X alone", "letter a 4 5; picker p 4 4 1;", "stand 0 1 1 ~ 0", "stand 0 1 0 ~ 54");
        EDGES.edge(sentence + ": two alike", "letter a 4 5; letter b 3 4; picker p 4 4 1;", "stand 0 1 1 ~ 1", "stand 0 1 0 ~ 0");
        EDGES.edge(sentence + ": the last cell alone", "letter a 9 7; picker p 9 7 1;", "stand 0 12 0 ~ 79", "stand 0 1 0 ~ 79");
        EDGES.edge(sentence + ": the last row", "letter a 8 7; picker p 9 7 1;", "stand 0 1 0 ~ 0", "stand 0 1 1 ~ 0");
    }

    private static void late() {
        EDGES.edge("LATE: 0", "picker p 0 0 1;", "late ~ 0");
        EDGES.edge("LATE: 1", "letter a 0 0; picker p 0 0 1;", "late ~ 1", "hours 1 = 1", "late ~ 0");
        EDGES.edge("LATE: as they go", "letter ab 4 4; picker p 0 0 9;", "late ~ -2", "send 0 5 4 = true", "late ~ -2", "send 0 9 4 = true", "late ~ -2", "send 0 4 4 = true", "hours 8 = 8",
                "late ~ -2", "send 0 5 4 = true", "late ~ 1");
        EDGES.edge("26: not", "letter a 0 0;", "late ~ -2");
        EDGES.edge("26: not, by a full HAT", "letter a 0 0; letter b 0 0; picker p 0 0 1;", "late ~ -2");
        String slow = "letter a 0 0; picker p 1 0 1; blows = if hour<99 then 0 else 1;";
        EDGES.edge("LATE: 0 .. 100", slow, "late ~ -2", "hours 1 = 1", "late ~ 100", "hours 1 = 2", "late ~ 99");
        EDGES.edge("LATE: without RAIN", "letter a 0 0; picker p 3 0 1; blows = 1; rain 100;", "late ~ 4", "hours 40 = 40", "late ~ 4");
    }

    private static void pieceIn() {
        String text = "letter ab 0 0; picker p 9 0 1; blows = 1; wind 1 1; rain 51; seed 7;";
        EDGES.edge("IN n HOURS (0 .. 40): 0", text, "pieceIn 1 0 0 ~ 1", "pieceIn 1 0 1 ~ 0", "pieceIn 1 0 2 ~ -2");
        EDGES.edge("IN n HOURS: with RAIN in the hours 3 to 6", text, "pieceIn 0 3 0 ~ 3", "pieceIn 0 3 1 ~ 3", "pieceIn 0 7 0 ~ 3", "pieceIn 0 8 0 ~ 4", "hours 7 = 7", "pieceIn 0 0 0 ~ 3",
                "pieceIn 0 1 0 ~ 4");
        EDGES.edge("IN n HOURS (0 .. 40): 40", "letter a 4 4; letter b 0 0; picker p 0 0 1; blows = if hour<39 then 0 else 1;", "pieceIn 0 39 0 ~ 4", "pieceIn 0 40 0 ~ 5", "pieceIn 1 40 2 ~ 0");
        EDGES.edge("27: who has it, where he is", "letter a 4 4; picker o 0 0 1; picker p 5 4 1;", "send 1 4 4 = true", "pieceIn 0 0 2 ~ -2", "pieceIn 0 1 2 ~ 1", "hours 1 = 1", "send 1 9 7 = true",
                "pieceIn 0 40 0 ~ 9", "pieceIn 0 40 1 ~ 7", "pieceIn 0 2 0 ~ 6", "pieceIn 0 0 0 ~ 4", "pieceIn 0 0 2 ~ 1");
        EDGES.edge("27: no such ones", text, "pieceIn 2 0 0 ~ -1", "pieceIn 0 41 0 ~ -1", "pieceIn 0 0 3 ~ -1");
        farOff("27: no such ones", text, "pieceIn", 0, 0, 0);
    }

    private static void pickerIn() {
        String text = "letter ab 3 0; picker p 0 0 1; picker q 9 7 1; blows = 1; rain 100;";
        EDGES.edge("IN n HOURS (0 .. 40) of a PICKER", text, "pickerIn 0 0 0 ~ 0", "pickerIn 0 40 0 ~ 0", "send 0 9 7 = true", "pickerIn 0 0 0 ~ 0", "pickerIn 0 1 0 ~ 1", "pickerIn 0 9 1 ~ 0",
                "pickerIn 0 10 1 ~ 1", "pickerIn 0 15 1 ~ 6", "pickerIn 0 16 1 ~ 7", "pickerIn 0 40 0 ~ 9", "pickerIn 0 40 1 ~ 7", "pickerIn 1 40 0 ~ 9");
        EDGES.edge("28: how many are in the HAT, with RAIN", text, "send 0 9 0 = true", "pickerIn 0 2 2 ~ 0", "pickerIn 0 3 2 ~ 1", "pickerIn 0 40 2 ~ 1", "hours 3 = 3", "pickerIn 0 0 2 ~ 1");
        EDGES.edge("28: no such ones", text, "pickerIn 2 0 0 ~ -1", "pickerIn 0 41 0 ~ -1", "pickerIn 0 0 3 ~ -1");
        farOff("28: no such ones", text, "pickerIn", 0, 0, 0);
    }

    /** In the hour 0 the LOT 100 of the SEEDS 0 .. 20 is as here; of the SEEDS from 9999 on, as in the second row. */
    private static void year() {
        int[] lots = {46, 88, 90, 15, 63, 79, 42, 80, 34, 54, 2, 45, 74, 35, 57, 9, 94, 13, 64, 82};
        int[] beyond = {89, 65, 46, 57, 31, 60, 26, 90, 13, 29, 54, 22, 14, 64, 74, 70, 61, 70, 21, 85};
        String text = "letter a 0 0; picker p 1 0 1; blows = if 0<hour then 0 else 1; rain ";
        for (int rain : new int[] {0, 1, 46, 47, 65, 66, 99, 100}) {
            List<String> rows = new ArrayList<>();
            List<String> rowsBeyond = new ArrayList<>();
            int clean = 0;
            int cleanBeyond = 0;
            for (int s = 1; s <= 20; s++) {
                clean += lots[s - 1] < rain ? 0 : 1;
                cleanBeyond += beyond[s - 1] < rain ? 0 : 1;
                rows.add("year 2 " + s + " ~ " + clean);
                rowsBeyond.add("year 2 " + s + " ~ " + cleanBeyond);
            }
            EDGES.edge("YEAR by s SEEDS (1 .. 20) from the text's SEED on", text + rain + ";", rows.toArray(new String[0]));
            EDGES.edge("YEAR by s SEEDS (1 .. 20) from 9999 on", text + rain + "; seed 9999;", rowsBeyond.toArray(new String[0]));
        }
        EDGES.edge("YEAR: RAIN 1, the LOT of the SEED 127 is 0", text + "1; seed 126;", "year 2 1 ~ 1", "year 2 2 ~ 1", "year 2 3 ~ 2", "year 2 20 ~ 19");
        EDGES.edge("YEAR: RAIN 99, the LOT of the SEED 58 is 99", text + "99; seed 57;", "year 2 1 ~ 0", "year 2 2 ~ 1", "year 2 3 ~ 1", "year 2 20 ~ 1");
        EDGES.edge("YEAR: in n HOURS (0 .. 40)", text + "0;", "year 0 20 ~ 0", "year 1 20 ~ 0", "year 2 20 ~ 20", "year 40 20 ~ 20", "year 40 1 ~ 1");
        EDGES.edge("YEAR: in 40 HOURS, not in 39", "letter a 0 0; picker p 1 0 1; blows = if hour<38 then 0 else 1;", "year 39 3 ~ 0", "year 40 3 ~ 3");
        EDGES.edge("YEAR: from now on, whatever went by", text + "47;", "year 2 1 ~ 0", "hours 1 = 1", "piece 0 2 = 0", "year 40 20 ~ 0");
        EDGES.edge("YEAR: nothing lies now", "letter a 0 0; picker p 0 0 1; rain 50;", "hours 1 = 1", "year 0 1 ~ 1", "year 0 20 ~ 20", "year 40 20 ~ 20");
        EDGES.edge("29: no such ones", text + "50;", "year 41 1 ~ -1", "year 0 21 ~ -1", "year 0 0 ~ -1", "year 41 21 ~ -1");
        farOff("29: no such ones", text + "50;", "year", 0, 1);
    }
}
