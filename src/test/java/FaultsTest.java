import java.util.Collections;

/** Promises 2 to 5: the tape, and the FAULTS of texts with their places. */
public final class FaultsTest {
    private static final Check CHECK = new Check();

    private static void fault(String text, int fault, int place) {
        ConfettiRound round = new ConfettiRound();
        Check.feed(round, text);
        CHECK.same("bytes of '" + text + "'", round.count(8), text.length());
        CHECK.same("read() of '" + text + "'", round.read(), fault);
        CHECK.same("place() of '" + text + "'", round.place(), place);
        CHECK.same("tape behind read()", round.count(8), 0);
    }

    private static void good(String text) {
        fault(text, 0, -1);
    }

    private static String times(int n, String part) {
        return String.join("", Collections.nCopies(n, part));
    }

    public static void main(String[] args) {
        tape();
        tokens();
        syntax();
        room();
        twiceAndWrong();
        changesNothing();
        CHECK.end();
    }

    private static void tape() {
        ConfettiRound round = new ConfettiRound();
        CHECK.same("place() at first", round.place(), -1);
        CHECK.same("back(0)", round.back(0), 0);
        CHECK.same("back(1)", round.back(1), -1);
        for (int i = 1; i <= 99; i++) {
            CHECK.same("feed", round.feed(0x20202020, 0x09090909, 0x0a0a0a0a, 0x0d0d0d0d, 0x20202020), 20 * i);
        }
        CHECK.same("back(-1)", round.back(-1), -1);
        CHECK.same("back(1981)", round.back(1981), -1);
        CHECK.same("back(0)", round.back(0), 1980);
        CHECK.same("feed to the brim", round.feed(0x20202020, 0x20202020, 0x20202020, 0x20202020, 0x20202020), 2000);
        CHECK.same("feed over it", round.feed(1, 2, 3, 4, 5), -1);
        CHECK.same("count(8)", round.count(8), 2000);
        CHECK.same("back(1)", round.back(1), 1999);
        CHECK.same("feed over it by 19", round.feed(1, 2, 3, 4, 5), -1);
        CHECK.same("read()", round.read(), 0);
        CHECK.same("count(8)", round.count(8), 0);
        CHECK.same("back(Integer.MIN_VALUE)", round.back(Integer.MIN_VALUE), -1);
        CHECK.same("back(Integer.MAX_VALUE)", round.back(Integer.MAX_VALUE), -1);
        CHECK.same("feed of bytes from 128 on", round.feed(-1, -1, -1, -1, -1), 20);
        CHECK.same("read()", round.read(), 1);
        CHECK.same("place()", round.place(), 0);
    }

    private static void tokens() {
        good("");
        good(" \t\r\n");
        good("letter abcdefgh 0 0;");
        fault("letter abcdefghi 0 0;", 1, 7);
        good("letter a9 7;word a;");
        good("letter\ta\n9\r7 ;");
        good("letter letterx 0009 0007;");
        fault("letterx a 9 7;", 1, 0);
        fault("letter a 00009 7;", 1, 9);
        fault("letter a 9 7,", 1, 12);
        fault("letter a 9 7;?", 1, 13);
        fault("letter A 9 7;", 1, 7);
        fault("letter a\u000b9 7;", 1, 8);
        fault("word a\u00e9;", 1, 6);
        fault("word abcdefghijklmnopqrstuvwxyz;", 1, 5);
        fault("blows = 1 > 2;", 1, 10);
        fault("seed 99999;", 1, 5);
        fault("seed 100000000000000000;", 1, 5);
        fault("\u0000", 1, 0);
    }

    private static void syntax() {
        fault("letter", 1, 6);
        fault("letter  ", 1, 8);
        fault("letter a 0 0", 1, 12);
        fault(";", 1, 0);
        fault("word a;;", 1, 7);
        fault("word 1;", 1, 5);
        fault("word word;", 1, 5);
        fault("letter hat 0 0;", 1, 7);
        fault("picker which 0 0 1;", 1, 7);
        fault("letter a b 0;", 1, 9);
        fault("letter a 0;", 1, 10);
        fault("letter a 0 0 0;", 1, 13);
        fault("picker a 0 0;", 1, 12);
        fault("picker a 0 0 1 1;", 1, 15);
        fault("letter a -1 0;", 1, 9);
        fault("blows 1;", 1, 6);
        fault("blows = ;", 1, 8);
        fault("blows = a;", 1, 8);
        fault("blows = -1;", 1, 8);
        fault("blows = 1 2;", 1, 10);
        fault("blows = 1 +;", 1, 11);
        fault("blows = 1 + * 2;", 1, 12);
        fault("blows = (1;", 1, 10);
        fault("blows = 1);", 1, 9);
        fault("blows = ();", 1, 9);
        fault("blows = if 1 then 2 else 3;", 1, 13);
        fault("blows = if 1 < 2 else 3;", 1, 17);
        fault("blows = if 1 < 2 then 3;", 1, 23);
        fault("blows = if 1 < 2 < 3 then 3 else 4;", 1, 17);
        fault("blows = if 1 < 2 then 3 else;", 1, 28);
        fault("blows = if 1 < 2 then if 1 < 2 then 3 else 4 else 5;", 1, 22);
        fault("blows = (if 1 < 2 then 3 else 4);", 1, 9);
        fault("blows = 1 < 2;", 1, 10);
        good("blows = if 1 < 2 then 3 else if hour < which then 4 else sign * (across - down) / lain + hat - has + here;");
        fault("wind 1;", 1, 6);
        fault("wind - - 1 0;", 1, 7);
        fault("wind -;", 1, 6);
        fault("wind 1 0 0;", 1, 9);
        good("wind -2 - 2;");
        good("wind -0-0;");
        fault("rain -1;", 1, 5);
        fault("rain;", 1, 4);
        fault("seed 1 2;", 1, 7);
        fault("then", 1, 0);
        fault("lain = 1;", 1, 0);
    }

    private static void room() {
        String letters = "letter a 0 0;letter b 0 0;letter c 0 0;letter d 0 0;";
        good(letters);
        fault(letters + " letter e 0 0;", 2, letters.length() + 1);
        fault(letters + "letter", 2, letters.length());
        fault(letters + "letter ? a a", 2, letters.length());
        String words = "word a;word b;word c;word d;word e;word f;word g;word h;";
        good(words);
        fault(words + "word i;", 2, words.length());
        String pickers = "picker a 0 0 1;picker b 0 0 1;picker c 0 0 1;picker d 0 0 1;";
        good(pickers + letters + words);
        fault(pickers + "rain 0;picker e 0 0 1;", 2, pickers.length() + 7);
        String ifs = "blows = " + times(4, "if 1<2 then 3 else ");
        good(ifs + "4;");
        good(ifs + "4;takes" + ifs.substring(5) + "4;");
        fault(ifs + "if 1<2 then 3 else 4;", 2, ifs.length());
        fault(ifs + "if", 2, ifs.length());
        good("blows = " + times(6, "(") + "1" + times(6, ")") + ";");
        fault("blows = " + times(7, "(") + "1" + times(7, ")") + ";", 2, 14);
        fault("blows = " + times(7, "("), 2, 14);
        good("blows = " + times(6, "(") + "1" + times(6, ")") + "+" + times(6, "(") + "1" + times(6, ")") + ";");
        good("blows = " + times(30, "(1)*") + "2;");
        String deep = times(6, "(") + "1" + times(6, ")");
        good("pays = if " + deep + " < " + deep + " then " + deep + " else " + deep + ";");
        fault("pays = if (" + deep + ") < 1 then 1 else 1;", 2, 16);
        fault("pays = if 1 < (" + deep + ") then 1 else 1;", 2, 20);
        fault("pays = if 1 < 1 then (" + deep + ") else 1;", 2, 27);
        fault("pays = if 1 < 1 then 1 else 2 * (" + deep + ");", 2, 38);
        good("pays=1" + times(198, "+1") + ";");
        fault("pays=1" + times(199, "+1") + ";", 2, 6 + 398 - 1);
        String rains = times(133, "rain 0;");
        good(rains);
        fault(rains + "rain 0;", 2, 936);
        fault(rains + "rain 0 0", 2, 936);
        fault(rains + "rain ;", 1, 936);
        fault(rains + "rain 00000", 1, 936);
        fault(rains + "rain", 1, 935);
        fault(rains + "rain ?", 1, 936);
        fault(rains + "; rain", 1, 931);
        fault(times(100, "wind 0 0;") + "word a;", 2, 900);
        fault(times(100, "wind 0 0;") + ";", 1, 900);
        good(times(100, "wind 0 0;"));
        good(times(100, "wind 0 0;") + times(1000, " "));
        fault(letters + letters + "word", 2, letters.length());
    }

    private static void twiceAndWrong() {
        fault("letter a 0 0; letter a 1 1;", 3, 21);
        fault("word ab; word ba; word ab;", 3, 23);
        fault("picker a 0 0 1; picker a 0 0 1;", 3, 23);
        good("letter a 0 0; word a; picker a 0 0 1;");
        good("word a; word aa;");
        fault("letter a 0 0; letter a 10 1;", 3, 21);
        fault("letter a 0 8; letter a 1 1;", 5, 11);
        fault("letter a 10 0;", 5, 9);
        fault("letter a 9 8;", 5, 11);
        fault("picker a 10 0 1;", 5, 9);
        fault("picker a 9 8 1;", 5, 11);
        fault("picker a 9 7 0;", 5, 13);
        fault("picker a 9 7 33;", 5, 13);
        good("picker a 9 7 32;");
        good("picker a 0 0 1;");
        fault("picker a 9 9 99;", 5, 11);
        fault("wind 3 0;", 5, 5);
        fault("wind -3 0;", 5, 6);
        fault("wind 2 - 3;", 5, 9);
        fault("rain 101;", 5, 5);
        good("rain 100;");
        good("seed 9999;");
        fault("rain 101; rain 1;", 5, 5);
        fault("rain 101; rain", 1, 14);
        fault("word a; word a; blows = 1 1;", 1, 26);
        good("blows = 9999;");
    }

    private static void changesNothing() {
        ConfettiRound round = CHECK.with("letter ab 3 3; word ab; picker p 3 3 5; seed 7;");
        round.hours(1);
        round.hold(1);
        round.tell(1, true);
        Check.feed(round, "letter c 0 0; letter c 0 0;");
        CHECK.same("read()", round.read(), 3);
        CHECK.same("place()", round.place(), 21);
        CHECK.same("LETTERS", round.count(0), 1);
        CHECK.same("PIECES", round.count(1), 2);
        CHECK.same("WORDS", round.count(2), 1);
        CHECK.same("PICKERS", round.count(3), 1);
        CHECK.same("hour", round.count(4), 1);
        CHECK.same("undo", round.count(9), 1);
        CHECK.same("TOLD", round.count(10), 1);
        CHECK.same("SLOTS", round.count(11), 1);
        CHECK.same("who has a", round.piece(0, 4), 0);
        Check.feed(round, "letter c 1 2; picker q 1 1 1;");
        CHECK.same("read()", round.read(), 0);
        CHECK.same("place()", round.place(), -1);
        CHECK.same("PIECES", round.count(1), 1);
        CHECK.same("WORDS", round.count(2), 0);
        CHECK.same("hour", round.count(4), 0);
        CHECK.same("lying", round.count(5), 1);
        CHECK.same("undo", round.count(9), 0);
        CHECK.same("undo()", round.undo(), false);
        CHECK.same("TOLD", round.count(10), 0);
        CHECK.same("SLOTS", round.count(11), 0);
        CHECK.same("restore(1)", round.restore(1), false);
        CHECK.same("sign", round.piece(0, 0), 3);
        CHECK.same("goal", round.picker(0, 4), -2);
        CHECK.same("has", round.picker(0, 3), 0);
    }
}
