import java.util.ArrayList;
import java.util.Arrays;
import java.util.List;

/** Terms, part II, and promises 6 to 13: LAWS, LOT, AN HOUR, what is done by hand, and undone. */
public final class EdgesOfHoursTest {
    private static final Edges EDGES = new Edges();
    /** 2 to the 31st wraps to the least of all ints. */
    private static final String LEAST = "256*256*256*128";
    private static final int[] FAR = {Integer.MIN_VALUE, -100, -3, -2, -1, 100, Integer.MAX_VALUE};

    public static void main(String[] args) {
        order();
        ifs();
        wrapping();
        rounding();
        byZero();
        vars();
        blows();
        takesAndPays();
        lot();
        walking();
        pickingUp();
        blowing();
        heldToTheYard();
        lain();
        rain();
        piece();
        picker();
        lies();
        send();
        drop();
        give();
        hours();
        undo();
        manyCalls();
        EDGES.end();
    }

    /** TAKES of the sign c (3) at X 7, Y 4, where it is the second PIECE, number 1, in the hour 0. */
    private static void takes(String sentence, String law, int due) {
        EDGES.edge(sentence, "letter a 7 4; letter c 7 4; takes = " + law + ";", "piece 1 7 = " + due);
    }

    private static void order() {
        String sentence = "E: PART {('+' | '-') PART}, PART: UNIT {('*' | '/') UNIT}";
        takes(sentence, "2+3*4", 14);
        takes(sentence, "2*3+4", 10);
        takes(sentence, "20-12/4", 17);
        takes(sentence, "20/4-3", 2);
        takes(sentence, "9-3-2", 4);
        takes(sentence, "9-(3-2)", 8);
        takes(sentence, "9-3+2", 8);
        takes(sentence, "40/5*2", 16);
        takes(sentence, "40/(5*2)", 4);
        takes(sentence, "80/4/2", 10);
        takes(sentence, "(2+3)*4", 20);
        takes(sentence, "((((((7))))))", 7);
        takes(sentence, "2*(1+2*(1+2*(1+2*(1+2*(1+2*(1))))))-60", 66);
        takes(sentence, "1" + "+1".repeat(90), 91);
    }

    private static void ifs() {
        String first = "the E of the first if that holds";
        takes(first, "if 1<2 then 5 else 6", 5);
        takes(first, "if 2<1 then 5 else if 1<2 then 6 else if 1<2 then 7 else 8", 6);
        takes(first, "if 2<1 then 5 else if 2<1 then 6 else if 2<1 then 7 else if 1<2 then 8 else 9", 8);
        takes("one less than the other", "if 2<2 then 5 else 6", 6);
        takes("one less than the other", "if 0-1<0 then 5 else 6", 5);
        takes("one less than the other", "if 0<0-1 then 5 else 6", 6);
        takes("else the last one", "if 2<1 then 5 else if 2<1 then 6 else if 2<1 then 7 else if 2<1 then 8 else 9", 9);
        takes("no if: the last one", "9", 9);
    }

    private static void wrapping() {
        String sentence = "ints of 32 bits that wrap";
        takes(sentence, "256*256*256*256+5", 5);
        takes(sentence, LEAST, 0);
        takes(sentence, LEAST + "-1", 99);
        takes(sentence, "if " + LEAST + "<0 then 5 else 6", 5);
        takes(sentence, "if " + LEAST + "-1+1<0 then 5 else 6", 5);
        takes(sentence, "if 0<" + LEAST + "-1 then 5 else 6", 5);
        takes(sentence, "if 0-" + LEAST + "<0 then 5 else 6", 5);
        takes(sentence, "if " + LEAST + "/(0-1)<0 then 5 else 6", 5);
        takes(sentence, LEAST + "/(0-1)-1-" + LEAST + "+1+7", 7);
        takes("one less than the other, not by what is between", "if " + LEAST + "<1 then 5 else 6", 5);
        takes("one less than the other, not by what is between", "if " + LEAST + "-1<0-1 then 5 else 6", 6);
        takes(sentence, "if " + LEAST + "/9999<0 then 5 else 6", 5);
        takes(sentence, "9999*9999*9999/9999/9999", 0);
    }

    private static void rounding() {
        String sentence = "/ rounded towards 0";
        takes(sentence, "7/2", 3);
        takes(sentence, "10+(0-7)/2", 7);
        takes(sentence, "10+7/(0-2)", 7);
        takes(sentence, "(0-7)/(0-2)", 3);
        takes(sentence, "10+(0-1)/2", 10);
        takes(sentence, "10+1/(0-2)", 10);
        takes(sentence, "10+(0-8)/2", 6);
        takes(sentence, "0/7", 0);
        takes(sentence, "3+0/7", 3);
    }

    private static void byZero() {
        String sentence = "a LAW in which something that is looked at is divided by 0 is 0";
        for (String law : new String[] {"5/0", "0/0", "9+1/0", "9-0*(1/0)", "9+0/(1/0)", "1/(1/2)", "9+1/0/1", "(1/0)/0", "9+5/(sign-3)", "9+5/hat", "9+1/lain",
            "if 1/0<1 then 5 else 6", "if 1<1/0 then 5 else 6", "if 9<1/0 then 5 else 6", "if 1<2 then 9+1/0 else 6", "if 2<1 then 5 else 9+1/0",
            "if 2<1 then 5 else if 1/0<9 then 7 else 8", "if 2<1 then 5 else if 9<1/0 then 7 else 8", LEAST + "/0+9"}) {
            takes(sentence, law, 0);
        }
        String not = "what is not looked at may be divided by 0";
        takes(not, "if 1<2 then 5 else 1/0", 5);
        takes(not, "if 2<1 then 1/0 else 6", 6);
        takes(not, "if 1<2 then 5 else if 1/0<1 then 7 else 8", 5);
        takes(not, "if 2<1 then 1/0 else if 1<2 then 7 else 1/0", 7);
        EDGES.edge(sentence + ": not blown", "letter a 0 0; blows = 1+1/0;", "piece 0 6 = 0", "hours 1 = 1", "piece 0 2 = 0", "piece 0 5 = 1");
        EDGES.edge(sentence + ": nothing is paid", "letter a 0 0; picker p 0 0 1; pays = 9+1/across;", "hours 1 = 1", "picker 0 6 = 0", "count 7 = 0");
        EDGES.edge(sentence + ": for one PIECE, not for another", "letter ab 0 0; takes = 8/across;", "piece 0 7 = 0", "piece 1 7 = 8", "loss 0 = 8");
    }

    private static void vars() {
        takes("sign", "sign", 3);
        takes("across, down: X, Y", "across", 7);
        takes("across, down: X, Y", "down", 4);
        takes("here: how many PIECES lie there", "here", 2);
        takes("which: its number", "which", 1);
        takes("lain", "lain+5", 5);
        takes("hour for all", "hour+5", 5);
        takes("a VAR not told for a LAW is 0 in it", "5+hat+has", 5);
        EDGES.edge("here: not what is in a HAT", "letter a 7 4; letter b 7 4; letter c 7 4; picker p 7 4 1; takes = here;", "piece 1 7 = 3", "hours 1 = 1", "piece 1 7 = 2");
        EDGES.edge("lain, hour, as it is then", "letter a 7 4; takes = 10*lain + hour;", "hours 3 = 3", "piece 0 7 = 33");
        EDGES.edge("a VAR not told for a LAW is 0 in it", "letter a 7 4; picker p 7 3 9; blows = 1 - hat - has;", "piece 0 6 = 1");
        String pays = "letter a 7 4; letter c 7 4; picker o 0 0 1; picker p 7 4 9; pays = ";
        EDGES.edge("a VAR not told for a LAW is 0 in it", pays + "5+across+down+lain+here;", "hours 2 = 2", "picker 1 6 = 10");
        EDGES.edge("a VAR not told for a LAW is 0 in it, though it was told for another one", "letter ab 7 4; picker p 7 4 9; takes = 5+hat+has; pays = 5+hat; blows = 1-hat-has; wind 0 0;",
                "hours 1 = 1", "picker 0 6 = 14", "piece 1 7 = 5", "picker 0 6 = 14", "piece 1 6 = 1", "picker 0 6 = 14", "loss 0 = 5");
        EDGES.edge("a VAR not told for a LAW is 0 in it, though it was told for another one", "letter ab 7 4; picker p 7 4 9; pays = 5+across+down+lain+here; takes = 40+across;",
                "hours 3 = 3", "piece 1 7 = 48", "picker 0 6 = 5", "count 7 = 5");
        EDGES.edge("PAYS: sign", pays + "sign;", "hours 1 = 1", "picker 1 6 = 4");
        EDGES.edge("PAYS: hat", pays + "hat;", "hours 1 = 1", "picker 1 6 = 18");
        EDGES.edge("PAYS: has: how many are in it", pays + "has;", "hours 1 = 1", "picker 1 6 = 4", "drop 0 = true", "picker 1 6 = 1");
        EDGES.edge("PAYS: which: the PICKER's number", pays + "which;", "hours 1 = 1", "picker 1 6 = 2", "give 1 0 = 1", "picker 0 6 = 0", "picker 1 6 = 1");
        EDGES.edge("hour for all: PAYS", pays + "hour;", "hours 1 = 1", "picker 1 6 = 2", "hours 4 = 5", "picker 1 6 = 10");
        String blows = "letter a 7 4; letter c 7 4; blows = ";
        EDGES.edge("BLOWS: sign", blows + "sign-1;", "piece 0 6 = 0", "piece 1 6 = 1");
        EDGES.edge("BLOWS: across", blows + "across-6;", "piece 0 6 = 1");
        EDGES.edge("BLOWS: across", blows + "across-7;", "piece 0 6 = 0");
        EDGES.edge("BLOWS: down", blows + "down-3;", "piece 0 6 = 1");
        EDGES.edge("BLOWS: down", blows + "down-4;", "piece 0 6 = 0");
        EDGES.edge("BLOWS: here", blows + "here-1;", "piece 0 6 = 1");
        EDGES.edge("BLOWS: here", blows + "here-2;", "piece 0 6 = 0");
        EDGES.edge("BLOWS: which", blows + "which;", "piece 0 6 = 0", "piece 1 6 = 1");
        EDGES.edge("BLOWS: hour", blows + "hour-1;", "hours 1 = 1", "piece 0 6 = 0", "hours 1 = 2", "piece 0 6 = 1");
        EDGES.edge("BLOWS: lain", blows + "lain;", "piece 0 6 = 0", "hours 1 = 1", "piece 0 6 = 1");
        EDGES.edge("a SIGN is 1 (a) .. 26 (z)", "letter az 0 0; takes = sign;", "piece 0 7 = 1", "piece 1 7 = 26", "piece 0 0 = 1", "piece 1 0 = 26");
    }

    private static void blows() {
        String sentence = "BLOWS: more than 0: it is blown";
        String[] laws = {"1", "0", "0-1", "9999", LEAST, LEAST + "-1", "1/2", "0*1"};
        int[] blown = {1, 0, 0, 1, 0, 1, 0, 0};
        for (int i = 0; i < laws.length; i++) {
            EDGES.edge(sentence, "letter a 4 4; blows = " + laws[i] + ";", "piece 0 6 = " + blown[i], "hours 1 = 1", "piece 0 2 = " + (4 + blown[i]),
                    "piece 0 5 = " + (1 - blown[i]));
        }
    }

    private static void takesAndPays() {
        String[] laws = {"0-1", "0", "1", "98", "99", "100", "9999", LEAST, LEAST + "-1"};
        int[] held = {0, 0, 1, 98, 99, 99, 99, 0, 99};
        for (int i = 0; i < laws.length; i++) {
            EDGES.edge("TAKES, held to 0 .. 99", "letter ab 0 0; takes = " + laws[i] + ";", "piece 0 7 = " + held[i], "loss 0 = " + 2 * held[i]);
            EDGES.edge("PAYS, held to 0 .. 99", "letter ab 0 0; picker p 0 0 2; pays = " + laws[i] + ";", "send 0 1 0 = true", "picker 0 6 = 0",
                    "hours 1 = 1", "picker 0 6 = " + held[i], "count 7 = " + held[i]);
        }
        EDGES.edge("each held, then added", "letter a 0 0; letter b 0 0; picker p 0 0 2; takes = if sign<2 then 0-50 else 200; pays = if sign<2 then 0-50 else 200;",
                "loss 0 = 99", "hours 1 = 1", "picker 0 6 = 99", "loss 0 = 0");
        EDGES.edge("more than 99 together", "letter a 0 0; letter b 0 0; letter c 5 5; picker p 0 0 2; picker q 5 5 1; takes = 99; pays = 99;", "loss 0 = 297",
                "hours 1 = 1", "picker 0 6 = 198", "picker 1 6 = 99", "count 7 = 297");
        EDGES.edge("OWED: an empty HAT", "letter a 0 0; picker p 1 1 1; pays = 50;", "picker 0 6 = 0", "count 7 = 0");
    }

    private static void rainAt(int seed, int hour, int lot) {
        List<String> rows = new ArrayList<>();
        for (int i = 1; i <= hour / 40; i++) {
            rows.add("hours 40 = " + 40 * i);
        }
        rows.add("hours " + hour % 40 + " = " + hour);
        String[] dry = rows.toArray(new String[rows.size() + 1]);
        String[] wet = dry.clone();
        dry[rows.size()] = "count 12 ~ 0";
        wet[rows.size()] = "count 12 ~ 1";
        EDGES.edge("RAIN: the LOT is not less than it", "seed " + seed + "; rain " + lot + ";", dry);
        EDGES.edge("RAIN: the LOT is less than it", "seed " + seed + "; rain " + (lot + 1) + ";", wet);
    }

    /** The LOTS were worked out beside the class. */
    private static void lot() {
        int[] seeds = {0, 1, 7, 9999};
        int[][] lots = {{46, 5, 40, 99, 61, 12, 75, 31}, {88, 49, 34, 90, 45, 78, 87, 3}, {80, 80, 91, 50, 11, 19, 2, 53}, {89, 22, 15, 44, 94, 59, 20, 40}};
        int[] inHour40 = {79, 38, 62, 51};
        int[] inHour1000 = {95, 47, 10, 62};
        for (int i = 0; i < seeds.length; i++) {
            for (int hour = 0; hour < 8; hour++) {
                rainAt(seeds[i], hour, lots[i][hour]);
            }
            rainAt(seeds[i], 40, inHour40[i]);
            rainAt(seeds[i], 1000, inHour1000[i]);
        }
        rainAt(127, 0, 0);
        rainAt(58, 0, 99);
        EDGES.edge("RAIN 0: never", "seed 127; rain 0;", "count 12 = 0");
        EDGES.edge("RAIN 100: always", "seed 58; rain 100;", "count 12 = 1");
    }

    private static void walked(String sentence, int goalX, int goalY, int... cells) {
        List<String> rows = new ArrayList<>(List.of("send 0 " + goalX + " " + goalY + " = true"));
        for (int i = 0; i < cells.length; i++) {
            boolean there = cells[i] == 10 * goalY + goalX;
            rows.addAll(List.of("hours 1 = " + (i + 1), "picker 0 0 = " + cells[i] % 10, "picker 0 1 = " + cells[i] / 10,
                    "picker 0 4 = " + (there ? -2 : goalX), "picker 0 5 = " + (there ? -2 : goalY), "count 13 = " + (there ? 0 : 1)));
        }
        EDGES.edge(sentence, "picker p 4 4 1;", rows.toArray(new String[0]));
    }

    private static void walking() {
        String sentence = "goes one cell towards it, by X as long as X is not that, then by Y (there: no goal any more)";
        walked(sentence, 6, 6, 45, 46, 56, 66, 66, 66);
        walked(sentence, 2, 2, 43, 42, 32, 22, 22);
        walked(sentence, 6, 2, 45, 46, 36, 26);
        walked(sentence, 2, 6, 43, 42, 52, 62);
        walked(sentence, 5, 4, 45, 45);
        walked(sentence, 3, 4, 43, 43);
        walked(sentence, 4, 5, 54, 54);
        walked(sentence, 4, 3, 34, 34);
        walked(sentence, 9, 7, 45, 46, 47, 48, 49, 59, 69, 79, 79);
        walked(sentence, 0, 0, 43, 42, 41, 40, 30, 20, 10, 0, 0);
        EDGES.edge("who has no goal stays", "picker p 4 4 1; picker q 0 0 1;", "send 1 1 1 = true", "hours 40 = 40", "picker 0 0 = 4", "picker 0 1 = 4",
                "picker 1 0 = 1", "picker 1 1 = 1");
        EDGES.edge("all HOURS at once, as one by one", "picker p 0 0 1;", "send 0 9 7 = true", "hours 16 = 16", "picker 0 0 = 9", "picker 0 1 = 7", "count 13 = 0");
        EDGES.edge("an HOUR ahead of it", "picker p 0 0 1;", "send 0 9 7 = true", "hours 15 = 15", "picker 0 0 = 9", "picker 0 1 = 6", "picker 0 4 = 9", "picker 0 5 = 7");
    }

    private static void pickingUp() {
        String three = "letter a 4 4; letter b 4 4; letter c 4 4; ";
        EDGES.edge("picks up the PIECES that lie at his cell", three + "letter d 5 4; picker p 4 4 32;", "hours 1 = 1", "picker 0 3 = 3", "piece 3 4 = -2");
        EDGES.edge("the lowest numbers first, as long as his HAT is not full", three + "picker p 4 4 2;", "hours 2 = 2", "piece 0 4 = 0", "piece 1 4 = 0",
                "piece 2 4 = -2", "count 14 = 1", "drop 0 = true", "hours 1 = 3", "piece 0 4 = 0", "piece 2 4 = -2");
        EDGES.edge("a HAT of 1", three + "picker p 4 4 1;", "hours 40 = 40", "picker 0 3 = 1", "piece 0 4 = 0", "lies 4 4 = 2");
        EDGES.edge("PICKER by PICKER", three + "picker p 4 4 1; picker q 4 4 1;", "hours 1 = 1", "piece 0 4 = 0", "piece 1 4 = 1", "piece 2 4 = -2", "count 14 = 3");
        EDGES.edge("PICKER by PICKER: the first takes all", three + "picker p 4 4 3; picker q 4 4 3;", "hours 1 = 1", "picker 0 3 = 3", "picker 1 3 = 0", "count 14 = 1");
        EDGES.edge("first each goes: the first picks ahead of one who was there", three + "picker p 3 4 2; picker q 4 4 9;", "send 0 4 4 = true", "hours 1 = 1",
                "picker 0 3 = 2", "picker 1 3 = 1", "piece 2 4 = 1");
        EDGES.edge("first each goes: who goes away picks nothing there", three + "picker p 4 4 9;", "send 0 3 4 = true", "hours 1 = 1", "picker 0 3 = 0", "lies 4 4 = 3");
        EDGES.edge("on his way, too", "letter abc 4 4; picker p 3 4 2;", "send 0 9 4 = true", "hours 1 = 1", "piece 0 4 = 0", "hours 1 = 2", "piece 1 4 = 0",
                "hours 1 = 3", "piece 2 4 = -2", "picker 0 0 = 6");
        EDGES.edge("then it is blown: not what he picked up", three + "picker p 4 4 2; blows = 1;", "hours 1 = 1", "piece 0 4 = 0", "piece 1 4 = 0", "piece 2 2 = 5");
        EDGES.edge("then it is blown: to his cell, picked up an HOUR later", "letter a 3 4; picker p 4 4 2; blows = 1;", "hours 1 = 1", "piece 0 2 = 4",
                "piece 0 4 = -2", "hours 1 = 2", "piece 0 4 = 0");
        EDGES.edge("a HAT of 32, all PIECES", "letter abcdefgh 0 0; letter bcdefghi 0 0; letter cdefghij 0 0; letter defghijk 0 0; picker p 0 0 32; picker q 9 7 31;",
                "send 0 7 0 = true", "hours 7 = 7", "picker 0 3 = 28", "count 14 = 0", "send 0 0 0 = true", "hours 7 = 14", "picker 0 3 = 32", "count 14 = 1",
                "count 5 = 0", "whole = 15", "give 0 1 = 31", "piece 31 4 = 0", "count 14 = 2");
    }

    private static void blowing() {
        EDGES.edge("all by how it is then: here, once it is picked up", "letter a 4 4; letter b 4 4; picker p 4 4 1; blows = 2 - here;", "piece 1 6 = 0",
                "hours 1 = 1", "piece 1 2 = 5");
        EDGES.edge("all by how it is then: one does not look at what another one did", "letter a 4 4; letter b 4 4; blows = here - 1;", "hours 1 = 1",
                "piece 0 2 = 5", "piece 1 2 = 5");
        EDGES.edge("all by how it is then: nor a later one", "letter a 4 4; letter b 5 4; blows = if which<1 then 1 else here - 1;", "hours 1 = 1", "piece 0 2 = 5",
                "piece 1 2 = 5", "piece 1 5 = 1");
        EDGES.edge("all by how it is then: nor an earlier one", "letter a 5 4; letter b 4 4; blows = if which<1 then here - 1 else 1;", "hours 1 = 1", "piece 0 2 = 5",
                "piece 0 5 = 1", "piece 1 2 = 5");
        EDGES.edge("all by how it is then: the hour", "letter a 4 4; blows = hour;", "hours 1 = 1", "piece 0 2 = 4", "hours 1 = 2", "piece 0 2 = 5");
        EDGES.edge("all by how it is then: lain", "letter a 4 4; blows = lain;", "hours 1 = 1", "piece 0 2 = 4", "piece 0 5 = 1", "hours 1 = 2", "piece 0 2 = 5",
                "piece 0 5 = 0", "hours 1 = 3", "piece 0 2 = 5", "hours 1 = 4", "piece 0 2 = 6");
        EDGES.edge("what is in a HAT is not blown", "letter a 4 4; picker p 4 4 1; blows = 1;", "hours 5 = 5", "piece 0 2 = 4", "drop 0 = true", "send 0 0 0 = true",
                "hours 1 = 6", "piece 0 2 = 5");
    }

    private static void heldToTheYard() {
        for (int wind = -2; wind <= 2; wind++) {
            for (int from : new int[] {0, 1, 2, 7, 8, 9}) {
                int x = Math.max(0, Math.min(9, from + wind));
                EDGES.edge("X held to 0 .. 9", "letter a " + from + " 3; blows = 1; wind " + wind + " 0;", "hours 1 = 1", "piece 0 2 = " + x, "piece 0 3 = 3", "piece 0 5 = 0");
            }
            for (int from : new int[] {0, 1, 2, 5, 6, 7}) {
                int y = Math.max(0, Math.min(7, from + wind));
                EDGES.edge("Y held to 0 .. 7", "letter a 5 " + from + "; blows = 1; wind 0 " + wind + ";", "hours 1 = 1", "piece 0 2 = 5", "piece 0 3 = " + y, "piece 0 5 = 0");
            }
        }
        EDGES.edge("held in a corner", "letter a 8 1; blows = 1; wind 2 -2;", "hours 40 = 40", "piece 0 2 = 9", "piece 0 3 = 0");
        EDGES.edge("held in a corner", "letter a 1 6; blows = 1; wind -2 2;", "hours 40 = 40", "piece 0 2 = 0", "piece 0 3 = 7");
    }

    private static String[] hoursUpTo(int last, String... then) {
        List<String> rows = new ArrayList<>();
        for (int i = 40; i <= last; i += 40) {
            rows.add("hours 40 = " + i);
        }
        rows.add("hours " + last % 40 + " = " + last);
        rows.addAll(Arrays.asList(then));
        return rows.toArray(new String[0]);
    }

    private static void lain() {
        String sentence = "all others that lie have lain an hour more (999 at most)";
        for (String text : new String[] {"letter a 4 4;", "letter a 4 4; blows = 1; rain 100;"}) {
            EDGES.edge(sentence, text, hoursUpTo(998, "piece 0 5 = 998", "hours 1 = 999", "piece 0 5 = 999", "hours 1 = 1000", "piece 0 5 = 999", "hours 40 = 1040",
                    "piece 0 5 = 999"));
        }
        EDGES.edge("999 in a LAW", "letter a 4 4; takes = lain - 950;", hoursUpTo(1080, "piece 0 7 = 49"));
        EDGES.edge("PIECES that are blown have lain 0 hours", "letter a 9 4; blows = 1;", "hours 3 = 3", "piece 0 2 = 9", "piece 0 5 = 0");
        EDGES.edge("PIECES that are blown have lain 0 hours, by no wind", "letter a 9 4; blows = if hour<2 then 0 else 1; wind 0 0;", "hours 2 = 2", "piece 0 5 = 2",
                "hours 1 = 3", "piece 0 5 = 0");
        EDGES.edge("it is the next hour", null, "hours 1 = 1", "count 4 = 1", "hours 40 = 41");
    }

    private static void rain() {
        EDGES.edge("if there is RAIN, nothing is blown", "letter a 4 4; blows = 1; rain 100;", "hours 3 = 3", "piece 0 2 = 4", "piece 0 5 = 3");
        EDGES.edge("in RAIN, 32 PIECES", "letter abcdefgh 0 0; letter bcdefghi 0 1; letter cdefghij 0 2; letter defghijk 0 3; blows = 1; rain 100;", "hours 9 = 9", "piece 31 2 = 7", "piece 31 5 = 9",
                "piece 0 5 = 9");
        EDGES.edge("without RAIN, 32 PIECES", "letter abcdefgh 0 0; letter bcdefghi 0 1; letter cdefghij 0 2; letter defghijk 0 3; blows = 1;", "hours 1 = 1", "piece 31 2 = 8", "piece 31 5 = 0",
                "piece 0 2 = 1");
        EDGES.edge("in RAIN, PICKERS go and pick up", "letter a 4 4; picker p 3 4 1; blows = 1; rain 100;", "send 0 4 4 = true", "hours 1 = 1", "piece 0 4 = 0");
        EDGES.edge("RAIN by the hour as it goes by: 5 and 40 are less than 41", "letter a 0 4; blows = 1; rain 41;", "count 12 = 0", "hours 1 = 1", "piece 0 2 = 1",
                "count 12 = 1", "hours 1 = 2", "piece 0 2 = 1", "piece 0 5 = 1", "count 12 = 1", "hours 1 = 3", "piece 0 2 = 1", "piece 0 5 = 2", "count 12 = 0",
                "hours 1 = 4", "piece 0 2 = 2", "piece 0 5 = 0");
        EDGES.edge("it would be blown now, RAIN or not", "letter a 0 4; blows = 1; rain 100;", "count 12 = 1", "piece 0 6 = 1");
    }

    private static void noneForOthers(String call, String text, int pieces, int whats) {
        List<String> rows = new ArrayList<>();
        for (int far : FAR) {
            rows.add(call + " " + far + " 0 ~ -1");
            rows.add(call + " 0 " + far + " ~ -1");
            rows.add(call + " " + far + " " + far + " ~ -1");
        }
        rows.add(call + " " + pieces + " 0 ~ -1");
        rows.add(call + " 0 " + whats + " ~ -1");
        rows.add(call + " " + pieces + " " + whats + " ~ -1");
        EDGES.edge("NONE for others", text, rows.toArray(new String[0]));
    }

    private static void piece() {
        noneForOthers("piece", "letter ab 0 0; picker p 0 0 1;", 2, 8);
        EDGES.edge("6: in a HAT: the PICKER's", "letter z 4 4; picker o 0 0 1; picker p 4 4 1; blows = 1; takes = 50;", "piece 0 4 ~ -2", "piece 0 6 ~ 1",
                "piece 0 7 ~ 50", "hours 1 = 1", "send 1 3 3 = true", "hours 2 = 3", "piece 0 0 ~ 26", "piece 0 1 ~ 0", "piece 0 2 ~ 3", "piece 0 3 ~ 3",
                "piece 0 4 ~ 1", "piece 0 5 ~ 0", "piece 0 6 ~ 0", "piece 0 7 ~ 0");
        EDGES.edge("6: in a HAT: lain 0, though it lay for long", "letter z 4 4; picker p 0 0 1;", "send 0 4 4 = true", "hours 7 = 7", "piece 0 5 = 7", "hours 1 = 8",
                "piece 0 4 = 0", "piece 0 5 = 0");
    }

    private static void picker() {
        noneForOthers("picker", "letter ab 0 0; picker p 0 0 1;", 1, 7);
        EDGES.edge("7: the goal (-2: none)", "picker p 0 0 1;", "picker 0 4 ~ -2", "picker 0 5 ~ -2", "send 0 0 3 = true", "picker 0 4 ~ 0", "picker 0 5 ~ 3",
                "send 0 3 0 = true", "picker 0 4 ~ 3", "picker 0 5 ~ 0", "send 0 -1 0 = true", "picker 0 4 ~ -2", "picker 0 5 ~ -2");
        EDGES.edge("7: how many are in it", "letter a 0 0; picker p 0 0 1;", "picker 0 3 ~ 0", "hours 1 = 1", "picker 0 3 ~ 1", "drop 0 = true", "picker 0 3 ~ 0");
        EDGES.edge("7: the fourth PICKER", "picker a 0 0 1; picker b 1 1 2; picker c 2 2 3; picker d 3 4 5;", "picker 3 0 = 3", "picker 3 1 = 4", "picker 3 2 = 5",
                "picker 4 0 ~ -1");
    }

    private static void lies() {
        String text = "letter a 0 0; letter b 9 0; letter cd 9 7;";
        noneForOthers("lies", text, 10, 8);
        EDGES.edge("8: how many PIECES lie at a cell", text + "picker p 9 7 1;", "lies 0 0 ~ 1", "lies 9 0 ~ 1", "lies 9 7 ~ 1", "lies 0 7 ~ 1", "lies 5 5 ~ 0", "hours 1 = 1",
                "lies 9 7 ~ 0", "drop 2 = true", "lies 9 7 ~ 1");
        EDGES.edge("8: no such cell", text, "lies 10 0 ~ -1", "lies 0 8 ~ -1", "lies 8 9 ~ -1");
    }

    private static void send() {
        String text = "letter a 1 1; picker p 4 4 1; picker q 0 0 1;";
        EDGES.edge("9: it is so", text, "send 0 4 4 ~ false", "send 0 -1 0 ~ false", "send 0 5 5 = true", "send 0 5 5 ~ false", "send 1 5 5 = true", "send 1 5 5 ~ false");
        EDGES.edge("9: x NONE: no goal, y is not looked at", text, "send 0 5 5 = true", "send 0 -1 99 = true", "picker 0 4 = -2", "send 0 5 5 = true",
                "send 0 -1 -2147483648 = true", "picker 0 5 = -2", "count 9 = 4");
        EDGES.edge("9: to his own cell: none, too", text, "send 0 5 5 = true", "send 0 4 4 = true", "picker 0 4 = -2", "count 13 = 0", "send 0 4 4 ~ false",
                "send 0 -1 4 ~ false", "count 9 = 2");
        EDGES.edge("9: another cell of the same X, of the same Y", text, "send 0 5 5 = true", "send 0 5 6 = true", "send 0 6 6 = true", "picker 0 4 = 6", "picker 0 5 = 6");
        EDGES.edge("9: to the cell where he is by then", text, "send 0 5 5 = true", "hours 1 = 1", "send 0 5 4 = true", "picker 0 4 = -2");
        EDGES.edge("9: to the goal where he is already", text, "send 0 5 4 = true", "hours 1 = 1", "send 0 5 4 ~ false");
        for (int far : FAR) {
            EDGES.edge("9: no such ones", text, "send " + far + " 5 5 ~ false", "send " + far + " -1 0 ~ false", "send 0 5 " + far + " ~ false");
            if (far != -1) {
                EDGES.edge("9: no such ones", text, "send 0 " + far + " 5 ~ false", "send 0 " + far + " " + far + " ~ false");
            }
        }
        EDGES.edge("9: no such ones", text, "send 2 5 5 ~ false", "send 2 -1 5 ~ false", "send 0 10 0 ~ false", "send 0 0 8 ~ false", "send 0 0 -1 ~ false",
                "send 0 9 7 = true", "send 1 9 0 = true", "send 1 0 7 = true");
    }

    private static void drop() {
        String text = "letter ab 4 4; picker p 4 4 2; picker q 5 4 2; blows = 0;";
        EDGES.edge("10: it lies", text, "drop 0 ~ false", "hours 1 = 1", "drop 0 = true", "drop 0 ~ false", "drop 1 = true", "drop 1 ~ false");
        EDGES.edge("10: no such PIECE", text, "hours 1 = 1", "drop 2 ~ false", "drop -1 ~ false", "drop -2 ~ false", "drop -2147483648 ~ false", "drop 2147483647 ~ false");
        EDGES.edge("DROPS a PIECE out of his HAT at his cell (it has lain 0)", text, "hours 3 = 3", "send 0 4 6 = true", "hours 2 = 5", "drop 0 = true",
                "piece 0 2 = 4", "piece 0 3 = 6", "piece 0 4 = -2", "piece 0 5 = 0", "picker 0 3 = 0", "lies 4 6 = 1", "piece 1 4 = 1", "picker 1 3 = 1");
        EDGES.edge("he picks it up again, if he is still there", text, "hours 1 = 1", "drop 0 = true", "hours 1 = 2", "piece 0 4 = 0");
        EDGES.edge("it lies there, once he went", text, "hours 1 = 1", "send 0 0 0 = true", "drop 0 = true", "hours 2 = 3", "piece 0 4 = -2", "piece 0 2 = 4", "piece 0 5 = 2");
        EDGES.edge("out of a full HAT", "letter a 4 4; picker p 4 4 1;", "hours 1 = 1", "count 14 = 1", "drop 0 = true", "count 14 = 0");
    }

    private static void give() {
        String text = "letter abcd 4 4; letter e 0 0; picker p 4 4 9; picker q 0 0 3; picker r 9 7 1;";
        String[] gone = {"send 0 7 4 = true", "hours 1 = 1", "send 0 3 4 = true", "hours 2 = 3", "send 0 7 4 = true", "hours 4 = 7", "picker 0 3 = 4", "picker 1 3 = 1"};
        EDGES.edge("GIVES all, as far as that HAT has room, the lowest first", text, with(gone, "give 0 1 = 2", "piece 0 4 = 1", "piece 1 4 = 1", "piece 2 4 = 0",
                "piece 3 4 = 0", "picker 0 3 = 2", "picker 1 3 = 3", "count 14 = 2", "piece 0 2 = 0", "piece 0 3 = 0"));
        EDGES.edge("GIVES all that is in his HAT", text, with(gone, "give 1 0 = 1", "piece 4 4 = 0", "piece 4 2 = 7", "picker 1 3 = 0", "picker 0 3 = 5", "give 0 1 = 3",
                "piece 2 4 = 1", "piece 3 4 = 0", "piece 4 4 = 0"));
        EDGES.edge("a HAT with room for one", text, with(gone, "give 0 2 = 1", "piece 0 4 = 2", "count 14 = 4", "give 1 2 = 0", "give 2 0 = 1"));
        EDGES.edge("11: how many: none", text, with(gone, "give 2 0 = 0", "picker 0 3 = 4", "give 0 1 = 2", "give 0 1 = 0", "picker 0 3 = 2", "picker 1 3 = 3"));
        EDGES.edge("11: none is how many, too: a thing done", text, with(gone, "count 9 = 6", "give 2 0 = 0", "count 9 = 7", "undo = true", "count 9 = 6"));
        EDGES.edge("11: no such ones, one and the same", text, with(gone, "give 0 0 ~ -1", "give 1 1 ~ -1", "give 0 3 ~ -1", "give 3 0 ~ -1", "give 3 3 ~ -1"));
        for (int far : FAR) {
            EDGES.edge("11: no such ones", text, with(gone, "give 0 " + far + " ~ -1", "give " + far + " 0 ~ -1", "give " + far + " " + far + " ~ -1"));
        }
    }

    private static String[] with(String[] rows, String... more) {
        String[] all = Arrays.copyOf(rows, rows.length + more.length);
        System.arraycopy(more, 0, all, rows.length, more.length);
        return all;
    }

    private static void hours() {
        String text = "letter a 4 4; picker p 0 0 1; blows = lain;";
        EDGES.edge("12: 0 is no thing done", text, "hours 0 ~ 0", "undo ~ false", "hours 1 = 1", "hours 0 ~ 1", "count 9 = 1");
        EDGES.edge("12: 1 .. 40", text, "hours 1 = 1", "hours 40 = 41", "hours 39 = 80", "count 9 = 3");
        EDGES.edge("12: no such n", text, "hours 41 ~ -1", "hours -1 ~ -1", "hours -2147483648 ~ -1", "hours 2147483647 ~ -1", "hours 2 = 2", "hours 41 ~ -1", "hours -40 ~ -1");
        EDGES.edge("12: n HOURS are one thing done", text, "hours 40 = 40", "undo = true", "count 4 = 0", "undo ~ false");
        for (int n = 0; n <= 40; n++) {
            String[] one = new String[n];
            for (int i = 0; i < n; i++) {
                one[i] = "hours 1";
            }
            ConfettiRound slow = Edges.replayed(text, one);
            ConfettiRound fast = Edges.replayed(text, "hours " + n);
            EDGES.same("12: n HOURS at once, as one by one: X", fast.piece(0, 2), slow.piece(0, 2));
            EDGES.same("12: n HOURS at once, as one by one: lain", fast.piece(0, 5), slow.piece(0, 5));
            EDGES.same("12: which it is", fast.count(4), n);
        }
    }

    private static void undo() {
        String text = "letter ab 4 4; picker p 4 4 2; picker q 0 0 2; blows = lain;";
        EDGES.edge("13: there is none", text, "undo ~ false", "hours 1 = 1", "undo = true", "undo ~ false", "count 9 = 0");
        EDGES.edge("13: send", text, "send 0 5 5 = true", "send 0 6 6 = true", "undo = true", "picker 0 4 = 5", "undo = true", "picker 0 4 = -2", "undo ~ false");
        EDGES.edge("13: drop", text, "hours 1 = 1", "drop 0 = true", "undo = true", "piece 0 4 = 0", "picker 0 3 = 1", "count 9 = 1");
        EDGES.edge("13: give", text, "hours 1 = 1", "give 0 1 = 1", "undo = true", "piece 0 4 = 0", "picker 0 3 = 1", "picker 1 3 = 0");
        EDGES.edge("13: hours", text, "send 0 5 4 = true", "hours 3 = 3", "undo = true", "count 4 = 0", "picker 0 0 = 4", "picker 0 4 = 5", "piece 1 4 = -2", "piece 1 2 = 5",
                "piece 1 5 = 0");
        EDGES.edge("13: what was refused is no thing done", text, "send 0 5 5 = true", "send 0 5 5 ~ false", "drop 0 ~ false", "give 0 0 ~ -1", "hours 0 ~ 0", "hours 41 ~ -1",
                "count 9 = 1", "undo = true", "undo ~ false");
        EDGES.edge("13: nor are others", text, "tell 1 true = 0", "hold 0 = true", "forget = 1", "tape:word", "back 1 = 3", "undo ~ false");
        EDGES.edge("13: an undone one is gone", text, "hours 1 = 1", "hours 2 = 3", "undo = true", "hours 4 = 5", "undo = true", "count 4 = 1", "undo = true", "count 4 = 0", "undo ~ false");
        for (int things : new int[] {39, 40, 41, 80, 100}) {
            List<String> rows = new ArrayList<>();
            for (int i = 1; i <= things; i++) {
                rows.add("hours 1 = " + i);
            }
            int least = Math.min(40, things);
            rows.add("count 9 = " + least);
            for (int i = 1; i <= least; i++) {
                rows.add("undo = true");
                rows.add("count 4 = " + (things - i));
            }
            rows.add("undo ~ false");
            EDGES.edge("13: the last 40 can be", text, rows.toArray(new String[0]));
        }
        EDGES.edge("13: not what was ahead of a restore", text, "hours 1 = 1", "hold 0 = true", "hours 1 = 2", "restore 0 = true", "undo ~ false", "hours 1 = 2", "undo = true", "count 4 = 1",
                "undo ~ false");
    }

    private static void manyCalls() {
        ConfettiRound round = Edges.replayed("letter a 4 4;");
        // Feeding and reading the text took three calls.
        for (int i = 4; i <= 511; i++) {
            EDGES.same("used for at most 512 calls", round.hours(40), 40 * (i - 3));
        }
        EDGES.same("the 512th call", round.count(4), 40 * 508);
    }
}
