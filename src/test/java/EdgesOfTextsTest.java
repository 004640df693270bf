import java.util.List;

/** Terms, part I, and promises 1 to 5: the tape, TOKENS, what a text tells, its bounds, its FAULTS. */
public final class EdgesOfTextsTest {
    private static final Edges EDGES = new Edges();
    private static final String[] QUOTED = {"letter", "word", "picker", "blows", "takes", "pays", "wind", "rain", "seed",
        "if", "then", "else", "sign", "across", "down", "hour", "lain", "hat", "has", "here", "which"};
    private static final String[] VARS = {"sign", "across", "down", "hour", "lain", "hat", "has", "here", "which"};
    private static final String[] LAWS = {"blows", "takes", "pays"};
    private static final String LETTERS = "letter a 0 0;letter b 0 0;letter c 0 0;letter d 0 0;";
    private static final String WORDS = "word a;word b;word c;word d;word e;word f;word g;word h;";
    private static final String PICKERS = "picker a 0 0 1;picker b 0 0 1;picker c 0 0 1;picker d 0 0 1;";
    private static final String IFS = "if 1<2 then 3 else ".repeat(4);

    public static void main(String[] args) {
        newObject();
        feed();
        back();
        read();
        place();
        blanks();
        names();
        ints();
        signs();
        tells();
        steps();
        laws();
        cells();
        letters();
        bounds();
        lastOnes();
        firstByPlace();
        ofOnePlaceTheLeast();
        tokens401();
        oneMoreOfASort();
        fifthIf();
        seventhWithin();
        twice();
        wrong();
        changesNothing();
        inPlaceOfTheOneAhead();
        EDGES.end();
    }

    private static void newObject() {
        String no = "1: no LETTERS, no PICKERS";
        EDGES.edge(no, null, "place ~ -1", "piece 0 0 ~ -1", "picker 0 0 ~ -1", "lies 0 0 ~ 0", "lies 9 7 ~ 0", "send 0 0 0 ~ false",
                "send 0 -1 0 ~ false", "drop 0 ~ false", "give 0 1 ~ -1", "give 0 0 ~ -1", "hours 0 ~ 0", "undo ~ false",
                "steps 0 0 0 ~ -1", "round 0 0 ~ -1", "round 0 1 ~ -1", "share 0 1 ~ -1", "closest 0 0 ~ -2", "richest 0 ~ -2", "richest 1 ~ -2");
        EDGES.edge(no, null, "made 0 ~ -1", "made 3 ~ -1", "made 4 ~ 0", "made 5 ~ 0", "together 0 ~ 0", "together 1 ~ 0", "missing 0 5 ~ -1",
                "longest 0 ~ -1", "longest 4 ~ -2", "longest 5 ~ -2", "whole ~ 0", "loss 0 ~ 0", "loss 40 ~ 0", "stand 0 1 0 ~ -1", "late ~ 0",
                "pieceIn 0 0 0 ~ -1", "pickerIn 0 0 0 ~ -1", "year 0 1 ~ 1", "year 40 20 ~ 20", "written 0 0 ~ 0", "written 0 1 ~ 0",
                "ask 0 ~ -2", "forget ~ 0", "restore 0 ~ false");
        for (int what = 0; what <= 14; what++) {
            EDGES.edge(no, null, "count " + what + " ~ 0");
        }
        EDGES.edge("1: hours go by, it is told, it is held, all the same", null, "hours 40 = 40", "count 4 = 40", "count 9 = 1", "tell 26 false = 0",
                "written 1 0 = 0", "ask 1 = -2", "hold 2 = true", "hours 1 = 41", "restore 2 = true", "count 4 = 40", "undo ~ false");
    }

    private static void feed() {
        int[] places = {0, 3, 4, 7, 8, 11, 12, 15, 16, 19};
        for (int place : places) {
            int[] fours = {0x20202020, 0x20202020, 0x20202020, 0x20202020, 0x20202020};
            fours[place / 4] ^= ('?' ^ ' ') << 24 - 8 * (place % 4);
            String row = "feed " + fours[0] + " " + fours[1] + " " + fours[2] + " " + fours[3] + " " + fours[4];
            EDGES.edge("2: twenty bytes, the highest of a first", null, row + " = 20", "read = 1", "place = " + place);
            EDGES.edge("2: they come behind the tape", null, "tape: ", row + " = 21", "read = 1", "place = " + (place + 1));
        }
        String some = "feed 538976288 538976288 538976288 538976288 538976288";
        String full = "tape:" + " ".repeat(2000);
        EDGES.edge("2: as many as 2,000", null, "tape:" + " ".repeat(1980), some + " = 2000", "count 8 = 2000", "read = 0");
        EDGES.edge("2: NONE, and nothing comes, if it would have more than 2,000", null, full, some + " ~ -1", "count 8 = 2000");
        EDGES.edge("2: not even by one", null, full, "back 19 = 1981", some + " ~ -1", "back 1 = 1980", some + " = 2000");
        EDGES.edge("2: bytes are 0 to 255", null, "feed -1 -1 -1 -1 -1 = 20", "read = 1", "place = 0", "feed 0 0 0 0 0 = 20", "read = 1", "place = 0");
        EDGES.good("a text has 2,000 bytes at most", " ".repeat(1993) + "word a;");
        EDGES.fault("a text of 2,000 bytes: its last one", " ".repeat(1999) + ";", 1, 1999);
        EDGES.fault("a text of 2,000 bytes: its end", " ".repeat(1996) + "word", 1, 2000);
    }

    private static void back() {
        String twenty = "tape:word a;word b;word c";
        EDGES.edge("3: NONE, and nothing goes, if it has not so many", null, "back 1 ~ -1", twenty, "back 21 ~ -1", "back 2147483647 ~ -1", "count 8 = 20");
        EDGES.edge("3: or n is below 0", null, "back -1 ~ -1", twenty, "back -1 ~ -1", "back -20 ~ -1", "back -2147483648 ~ -1", "count 8 = 20");
        EDGES.edge("3: all of them", null, twenty, "back 20 = 0", "back 0 ~ 0", "back 1 ~ -1", "read = 0", "count 2 = 0");
        EDGES.edge("3: none of them", null, "back 0 ~ 0", twenty, "back 0 ~ 20");
        EDGES.edge("3: the last n bytes", null, twenty, "back 6 = 14", "read = 0", "count 2 = 2");
        EDGES.edge("3: the last n bytes", null, twenty, "back 7 = 13", "read = 1", "place = 13");
        EDGES.edge("3: what comes then comes behind the rest", null, twenty, "back 7 = 13", "tape:; word dd;", "read = 0", "count 2 = 3");
    }

    private static void read() {
        EDGES.edge("4: the tape is empty then", null, "tape:word a;", "read = 0", "count 8 = 0", "back 1 ~ -1");
        EDGES.edge("4: the tape is empty then, with a FAULT, too", null, "tape:word", "read = 1", "count 8 = 0", "back 1 ~ -1", "tape: a;", "read = 1",
                "place = 1");
        EDGES.edge("4: an empty tape is a text", "letter a 0 0; word b; picker p 0 0 1;", "read = 0", "count 0 = 0", "count 1 = 0", "count 2 = 0",
                "count 3 = 0", "place = -1");
        EDGES.edge("4: blanks are a text", "letter a 0 0; word b; picker p 0 0 1;", "tape:\t\n\r ", "read = 0", "count 0 = 0", "count 2 = 0", "count 3 = 0");
        EDGES.edge("4: the number of its FAULT", null, "tape:a", "read = 1", "tape:" + LETTERS + "letter", "read = 2", "tape:word a;word a;", "read = 3",
                "tape:rain 101;", "read = 5", "tape:rain 100;", "read = 0");
    }

    private static void place() {
        EDGES.edge("5: NONE without", null, "place = -1", "tape:word a;", "read = 0", "place = -1", "read = 0", "place = -1");
        EDGES.edge("5: of the latest read()", null, "tape:word ?", "read = 1", "place = 5", "tape:??", "place = 5", "back 1 = 1", "hours 1 = 1",
                "place = 5", "read = 1", "place = 0", "read = 0", "place = -1");
        EDGES.edge("5: it is no thing that goes on", null, "hold 0 = true", "hours 1 = 1", "tape:word ?", "read = 1", "undo = true", "place = 5",
                "restore 0 = true", "place = 5");
    }

    private static boolean isLetter(int c) {
        return c >= 97 && c <= 122;
    }

    private static boolean isDigit(int c) {
        return c >= 48 && c <= 57;
    }

    private static boolean isBlank(int c) {
        return c == 9 || c == 10 || c == 13 || c == 32;
    }

    private static void blanks() {
        for (int c = 0; c <= 255; c++) {
            String text = "word" + (char) c + "a;";
            String sentence = "blanks (9, 10, 13, 32), byte " + c;
            EDGES.fault(sentence, text, isBlank(c) ? 0 : 1, isBlank(c) ? -1 : isLetter(c) ? 0 : 4);
            EDGES.fault(sentence + " behind a text", "word a;" + (char) c, isBlank(c) ? 0 : 1, isBlank(c) ? -1 : 7);
        }
        EDGES.good("blanks between or not", "letter a9 7;word b;blows=if 1<2then 3else(4)*5;wind-1-2;rain1;seed2;picker c1 2 3;");
        EDGES.good("blanks between or not", "\t\n letter\r\na\t9 \n\t 7  ;\n\n\rword b ; blows\n= if\n1\n<\n2\nthen 3 else ( 4 ) * 5 ; wind - 1 - 2 ; ");
        EDGES.fault("blanks part TOKENS", "wo rd a;", 1, 0);
        EDGES.fault("blanks part TOKENS", "seed 1 2;", 1, 7);
        EDGES.fault("blanks part TOKENS", "word a b;", 1, 7);
    }

    private static void names() {
        EDGES.good("NAMES: 8 letters at most", "letter abcdefgh 0 0;word stuvwxyz;picker zzzzzzzz 0 0 1;");
        EDGES.fault("NAMES: a longer one is no TOKEN", "letter abcdefghi 0 0;", 1, 7);
        EDGES.fault("NAMES: a longer one is no TOKEN", "word abcdefghi;", 1, 5);
        EDGES.fault("NAMES: a longer one is no TOKEN", "picker abcdefghi 0 0 1;", 1, 7);
        EDGES.fault("NAMES: a longer one is no TOKEN", "word " + "a".repeat(1995), 1, 5);
        EDGES.fault("NAMES: the longest that can be", "letterletter a 0 0;", 1, 0);
        EDGES.fault("NAMES: the longest that can be", "worda;", 1, 0);
        EDGES.fault("NAMES: the longest that can be", "blows = signsign;", 1, 8);
        EDGES.good("NAMES: one letter, a and z", "letter a 0 0;word z;");
        for (String quoted : QUOTED) {
            EDGES.fault("NAMES: none of the words in quotes", "letter " + quoted + " 0 0;", 1, 7);
            EDGES.fault("NAMES: none of the words in quotes", "word " + quoted + ";", 1, 5);
            EDGES.fault("NAMES: none of the words in quotes", "picker " + quoted + " 0 0 1;", 1, 7);
            EDGES.good("NAMES: a word in quotes and a letter more", "word " + quoted + "x;");
            String less = quoted.substring(0, quoted.length() - 1);
            EDGES.good("NAMES: a word in quotes and a letter less", "letter " + less + " 0 0;");
        }
        for (char c : "`{AZ_@[".toCharArray()) {
            EDGES.fault("NAMES: letters a .. z", "word " + c + ";", 1, 5);
            EDGES.fault("NAMES: letters a .. z", "word b" + c + ";", 1, 6);
        }
    }

    private static void ints() {
        EDGES.good("INTS: 1 to 4 digits", "seed 0;seed 10;seed 234;seed 9999;");
        EDGES.good("INTS: 4 digits, the first ones 0", "letter a 0009 0007;picker p 0000 0000 0032;wind -0002 0002;rain 0100;seed 0000;");
        EDGES.fault("INTS: a longer one is no TOKEN", "seed 10000;", 1, 5);
        EDGES.fault("INTS: a longer one is no TOKEN, whatever it is", "seed 00001;", 1, 5);
        EDGES.fault("INTS: a longer one is no TOKEN", "takes = 12345;", 1, 8);
        EDGES.fault("INTS: a longer one is no TOKEN", "seed " + "0".repeat(1995), 1, 5);
        EDGES.fault("INTS: a longer one is no TOKEN", "seed 4294967297;", 1, 5);
        EDGES.fault("INTS: the longest that can be", "letter a 12;", 1, 11);
        EDGES.fault("INTS: digits 0 .. 9", "seed :;", 1, 5);
        EDGES.fault("INTS: digits 0 .. 9", "seed 1:;", 1, 6);
        EDGES.fault("INTS: an INT, then a NAME", "seed 1a;", 1, 6);
    }

    private static void signs() {
        for (int c = 0; c <= 255; c++) {
            int place = isLetter(c) ? 9 : isBlank(c) || c == ';' ? 10 : 9;
            boolean good = isDigit(c) || c == '+' || c == '-' || c == '*' || c == '/';
            EDGES.fault("SIGNS ; = + - * / < ( ), byte " + c, "blows = 1" + (char) c + "2;", good ? 0 : 1, good ? -1 : place);
        }
        for (char c : "!\"#$%&',.:>?@[\\]^_{|}~\u007f\u0080\u00a0\u00ff".toCharArray()) {
            EDGES.fault("all else is no TOKEN", "word a;" + c, 1, 7);
            EDGES.fault("all else is no TOKEN", "takes = " + c + "1;", 1, 8);
        }
    }

    /** Each way in which a text that goes on can end too early: at its end, by its length. */
    private static void tells() {
        String[] tokens = {"letter", "a", "1", "2", ";", "word", "b", ";", "picker", "c", "1", "2", "3", ";", "blows", "=", "1", ";",
            "takes", "=", "if", "1", "<", "2", "then", "(", "3", "+", "4", ")", "*", "5", "/", "6", "else", "7", "-", "8", ";",
            "pays", "=", "hat", ";", "wind", "-", "1", "0", ";", "rain", "1", ";", "seed", "1", ";"};
        StringBuilder text = new StringBuilder();
        for (String token : tokens) {
            text.append(token).append(' ');
            boolean whole = token.equals(";");
            EDGES.fault("the text's end: its length", text.toString(), whole ? 0 : 1, whole ? -1 : text.length());
            EDGES.fault("what is no TOKEN, with which no text goes on", text + "? ", 1, text.length());
            EDGES.fault("the first by its place, a TELL behind it or not", text + "rain 0; ?", 1, text.length() + (whole ? 8 : 0));
        }
        EDGES.good("text: {TELL}: none", "");
        for (String quoted : QUOTED) {
            boolean begins = " letter word picker blows takes pays wind rain seed ".contains(" " + quoted + " ");
            EDGES.fault("a TELL begins with its word", "word a;" + quoted, 1, begins ? 7 + quoted.length() : 7);
        }
        EDGES.fault("a TELL ends with ;", "word a word b;", 1, 7);
        EDGES.fault("one ; alone", "word a;;", 1, 7);
        EDGES.fault("INT INT", "letter a 0;", 1, 10);
        EDGES.fault("INT INT", "letter a 0 0 0;", 1, 13);
        EDGES.fault("INT INT INT", "picker a 0 0;", 1, 12);
        EDGES.fault("INT INT INT", "picker a 0 0 1 1;", 1, 15);
        EDGES.fault("no - but in a STEP", "letter a -1 0;", 1, 9);
        EDGES.fault("no - but in a STEP", "rain -1;", 1, 5);
        EDGES.fault("no - but in a STEP", "seed -1;", 1, 5);
        EDGES.fault("NAME", "letter 0 0 0;", 1, 7);
    }

    private static void steps() {
        EDGES.good("STEP: ['-'] INT", "wind 0 0;wind -0 -0;wind - 1 - 1;wind 2-2;wind-2 2;");
        EDGES.fault("STEP: one - at most", "wind --1 0;", 1, 6);
        EDGES.fault("STEP: one - at most", "wind 0 --1;", 1, 8);
        EDGES.fault("STEP: no +", "wind +1 0;", 1, 5);
        EDGES.fault("STEP STEP", "wind 1;", 1, 6);
        EDGES.fault("STEP STEP", "wind 1 1 1;", 1, 9);
        EDGES.fault("STEP: an INT", "wind 1 -;", 1, 8);
        EDGES.fault("STEP: an INT", "wind hour 0;", 1, 5);
    }

    private static void laws() {
        for (String law : LAWS) {
            for (String var : VARS) {
                EDGES.good("VAR: any in any LAW", law + " = if " + var + " < " + var + " then " + var + " else " + var + ";");
            }
            int at = law.length() + 3;
            EDGES.good("LAW: {if ..}: none", law + " = 0;");
            EDGES.fault("LAW: =", law + " 0;", 1, law.length() + 1);
            EDGES.fault("LAW: an E at the end", law + " = ;", 1, at);
            EDGES.fault("LAW: an E at the end", law + " = if 1 < 2 then 3 else ;", 1, at + 21);
            EDGES.fault("LAW: a then", law + " = if 1 < 2 else 3;", 1, at + 9);
            EDGES.fault("LAW: an else", law + " = if 1 < 2 then 3;", 1, at + 15);
            EDGES.fault("LAW: one < of an if", law + " = if 1 < 2 < 3 then 4 else 5;", 1, at + 9);
            EDGES.fault("LAW: a < but in an if", law + " = 1 < 2;", 1, at + 2);
            EDGES.fault("LAW: an if behind else alone", law + " = if 1 < 2 then if 1 < 2 then 3 else 4 else 5;", 1, at + 14);
            EDGES.fault("LAW: no if within ( )", law + " = (if 1 < 2 then 3 else 4);", 1, at + 1);
            EDGES.fault("LAW: no if behind +", law + " = 1 + if 1 < 2 then 3 else 4;", 1, at + 4);
            EDGES.fault("UNIT: no NAME", law + " = a;", 1, at);
            EDGES.fault("UNIT: no -", law + " = -1;", 1, at);
            EDGES.fault("UNIT: no -", law + " = 1 * -1;", 1, at + 4);
            EDGES.fault("UNIT: an E within ( )", law + " = ();", 1, at + 1);
            EDGES.fault("UNIT: )", law + " = (1;", 1, at + 2);
            EDGES.fault("UNIT: ( ahead of )", law + " = 1);", 1, at + 1);
            EDGES.fault("PART: a UNIT behind *", law + " = 1 * ;", 1, at + 4);
            EDGES.fault("PART: a UNIT behind /", law + " = 1 / / 2;", 1, at + 4);
            EDGES.fault("E: a PART behind +", law + " = 1 + ;", 1, at + 4);
            EDGES.fault("E: a PART behind -", law + " = 1 - + 2;", 1, at + 4);
            EDGES.fault("E: + or - between PARTS", law + " = 1 (2);", 1, at + 2);
        }
    }

    private static void cells() {
        for (int x = 8; x <= 11; x++) {
            EDGES.fault("X 0 .. 9", "letter a " + x + " 0;", x > 9 ? 5 : 0, x > 9 ? 9 : -1);
            EDGES.fault("X 0 .. 9", "picker a " + x + " 0 1;", x > 9 ? 5 : 0, x > 9 ? 9 : -1);
        }
        for (int y = 6; y <= 9; y++) {
            EDGES.fault("Y 0 .. 7", "letter a 0 " + y + ";", y > 7 ? 5 : 0, y > 7 ? 11 : -1);
            EDGES.fault("Y 0 .. 7", "picker a 0 " + y + " 1;", y > 7 ? 5 : 0, y > 7 ? 11 : -1);
        }
        EDGES.edge("X 0 .. 9, Y 0 .. 7: the corners", "letter a 0 0; letter b 9 0; letter c 0 7; letter d 9 7; picker a 0 0 1; picker b 9 0 1; picker c 0 7 1; picker d 9 7 1;",
                "piece 0 2 = 0", "piece 0 3 = 0", "piece 1 2 = 9", "piece 1 3 = 0", "piece 2 2 = 0", "piece 2 3 = 7", "piece 3 2 = 9", "piece 3 3 = 7",
                "picker 0 0 = 0", "picker 0 1 = 0", "picker 1 0 = 9", "picker 1 1 = 0", "picker 2 0 = 0", "picker 2 1 = 7", "picker 3 0 = 9", "picker 3 1 = 7");
    }

    private static void letters() {
        EDGES.edge("the i-th sign (0 on) lies at X + i (its rest by 10), Y", "letter abcdefgh 9 7; letter ij 8 7;", "piece 0 2 = 9", "piece 1 2 = 0",
                "piece 2 2 = 1", "piece 7 2 = 6", "piece 7 3 = 7", "piece 8 2 = 8", "piece 9 2 = 9", "piece 1 3 = 7");
        EDGES.edge("the rest by 10 is not there before X 9", "letter abcdefgh 2 3; letter i 9 0;", "piece 7 2 = 9", "piece 7 3 = 3", "piece 8 2 = 9");
        EDGES.edge("PIECES, numbered all from 0 on, LETTER by LETTER, sign by sign", "letter az 0 0; letter b 0 0; word x; letter ya 0 0;", "count 1 = 5",
                "piece 0 0 = 1", "piece 1 0 = 26", "piece 2 0 = 2", "piece 3 0 = 25", "piece 4 0 = 1", "piece 0 1 = 0", "piece 1 1 = 0",
                "piece 2 1 = 1", "piece 3 1 = 2", "piece 4 1 = 2", "piece 5 0 = -1");
        EDGES.edge("LETTERS, 4 at most, 8 signs each", "letter abcdefgh 0 0; letter bcdefghi 0 1; letter cdefghij 0 2; letter defghijk 5 3;", "count 0 = 4",
                "count 1 = 32", "count 5 = 32", "count 6 = 32", "piece 31 0 = 11", "piece 31 1 = 3", "piece 31 2 = 2", "piece 31 3 = 3", "piece 32 0 ~ -1");
        EDGES.edge("all numbered each from 0 on as they stand", "picker z 1 1 1; word z; letter z 9 7; picker a 2 2 2; rain 0; word a; letter a 0 0; word m; picker m 3 3 3;", "picker 0 0 = 1",
                "picker 1 0 = 2", "picker 2 0 = 3", "piece 0 0 = 26", "piece 1 0 = 1", "missing 0 5 = 0", "missing 1 5 = 0", "missing 2 5 = 1", "made 5 = 3", "picker 3 0 = -1");
        EDGES.edge("a sign as often as it is written", "letter aaaa 0 0;", "count 1 = 4", "piece 3 0 = 1");
    }

    private static void bounds() {
        EDGES.edge("LETTERS, WORDS, PICKERS, as many as can be", LETTERS + WORDS + PICKERS, "count 0 = 4", "count 2 = 8", "count 3 = 4");
        for (int hat = 0; hat <= 34; hat++) {
            boolean good = hat >= 1 && hat <= 32;
            EDGES.fault("HAT: 1 .. 32", "picker a 0 0 " + hat + ";", good ? 0 : 5, good ? -1 : 13);
        }
        EDGES.edge("HAT: 1 .. 32", "picker a 0 0 1; picker b 0 0 32;", "picker 0 2 = 1", "picker 1 2 = 32");
        for (int wind = 0; wind <= 4; wind++) {
            EDGES.fault("WIND: -2 .. 2", "wind " + wind + " 0;", wind > 2 ? 5 : 0, wind > 2 ? 5 : -1);
            EDGES.fault("WIND: -2 .. 2", "wind 0 " + wind + ";", wind > 2 ? 5 : 0, wind > 2 ? 7 : -1);
            EDGES.fault("WIND: -2 .. 2, at the INT", "wind -" + wind + " 0;", wind > 2 ? 5 : 0, wind > 2 ? 6 : -1);
            EDGES.fault("WIND: -2 .. 2, at the INT", "wind 0 -  " + wind + ";", wind > 2 ? 5 : 0, wind > 2 ? 10 : -1);
        }
        EDGES.good("RAIN: 0 .. 100", "rain 0;rain 100;");
        EDGES.fault("RAIN: 0 .. 100", "rain 101;", 5, 5);
        EDGES.fault("RAIN: 0 .. 100", "rain 9999;", 5, 5);
        EDGES.good("SEED: 0 .. 9999", "seed 0;seed 9999;");
        EDGES.good("an INT of a LAW: any", "blows = 0;takes = 9999;pays = 101;");
    }

    private static void lastOnes() {
        EDGES.edge("LAWS: BLOWS (0), TAKES (1), PAYS (1), if not told", "letter ab 0 0; picker p 1 0 9;", "piece 0 6 = 0", "piece 0 7 = 1", "loss 0 = 2",
                "hours 1 = 1", "piece 0 5 = 1", "picker 0 6 = 1");
        EDGES.edge("WIND (1, 0), if not told", "letter a 4 4; blows = 1;", "hours 1 = 1", "piece 0 2 = 5", "piece 0 3 = 4");
        EDGES.edge("RAIN (0), if not told: the LOT is 0", "seed 127;", "count 12 = 0");
        EDGES.edge("SEED (0), if not told: the LOT is 46", "rain 47;", "count 12 = 1");
        EDGES.edge("SEED (0), if not told: the LOT is 46", "rain 46;", "count 12 = 0");
        EDGES.edge("the last one of a LAW", "letter ab 0 0; picker p 1 0 9; takes = 5; pays = 6; blows = 0; takes = 7; blows = 1; pays = 8;", "piece 0 6 = 1",
                "piece 0 7 = 7", "hours 1 = 1", "picker 0 6 = 8");
        EDGES.edge("the last one, though it came to less", "letter a 0 0; takes = if 1 < 2 then 9 else 8; takes = 3;", "piece 0 7 = 3");
        EDGES.edge("the last one of a WIND", "letter a 4 4; blows = 1; wind 2 2; wind 0 -1;", "hours 1 = 1", "piece 0 2 = 4", "piece 0 3 = 3");
        EDGES.edge("the last one of a RAIN", "rain 100; rain 0;", "count 12 = 0");
        EDGES.edge("the last one of a SEED", "rain 1; seed 0; seed 127;", "count 12 = 1");
        EDGES.edge("the last one, a SEED of which is 0", "rain 1; seed 127; seed 0;", "count 12 = 0");
        EDGES.edge("WIND as told", "letter a 4 4; blows = 1; wind -2 2;", "hours 1 = 1", "piece 0 2 = 2", "piece 0 3 = 6");
        EDGES.edge("WIND as told", "letter a 4 4; blows = 1; wind 2 -2;", "hours 1 = 1", "piece 0 2 = 6", "piece 0 3 = 2");
        EDGES.fault("a wrong one that is not the last one", "rain 101; rain 1;", 5, 5);
    }

    private static void firstByPlace() {
        EDGES.fault("the first by its place: SYNTAX, SYNTAX", "word ?; word ?;", 1, 5);
        EDGES.fault("the first by its place: ROOM, SYNTAX", LETTERS + "letter ?", 2, 52);
        EDGES.fault("the first by its place: SYNTAX, ROOM", LETTERS + "? letter e 0 0;", 1, 52);
        EDGES.fault("the first by its place: ROOM, ROOM", LETTERS + "letter e 0 0;" + PICKERS + "picker e 0 0 1;", 2, 52);
        EDGES.fault("the first by its place: ROOM, the text's end", LETTERS + "letter", 2, 52);
        EDGES.fault("if there is none: TWICE ahead of SYNTAX", "word a;word a;word ?", 1, 19);
        EDGES.fault("if there is none: WRONG ahead of SYNTAX", "rain 101;?", 1, 9);
        EDGES.fault("if there is none: WRONG ahead of the text's end", "rain 101", 1, 8);
        EDGES.fault("if there is none: TWICE ahead of ROOM", "letter a 0 0;letter a 0 0;letter c 0 0;letter d 0 0;letter e 0 0;", 2, 52);
        EDGES.fault("if there is none: WRONG ahead of ROOM", "letter a 0 8;letter b 0 0;letter c 0 0;letter d 0 0;letter e 0 0;", 2, 52);
        EDGES.fault("likewise: TWICE, WRONG", "letter a 0 0;letter a 0 8;", 3, 20);
        EDGES.fault("likewise: WRONG, TWICE", "letter a 0 8;letter a 0 0;", 5, 11);
        EDGES.fault("likewise: WRONG, WRONG", "letter a 10 8;", 5, 9);
        EDGES.fault("likewise: TWICE, TWICE", "word a;word b;word b;word a;", 3, 19);
        EDGES.fault("likewise: TWICE of another sort", "word a;picker a 0 0 0;word a;", 5, 20);
    }

    private static void ofOnePlaceTheLeast() {
        String rains = "rain 0;".repeat(133);
        EDGES.fault("of one place the least: a 401st TOKEN, SYNTAX", rains + "rain rain", 1, 936);
        EDGES.fault("of one place the least: a 401st that is no TOKEN", rains + "rain ?", 1, 936);
        EDGES.fault("of one place the least: a 401st that is no TOKEN", rains + "rain 10000;", 1, 936);
        EDGES.fault("of one place the least: a 5th if, SYNTAX", "blows = " + "if 1<2 then 3 else ".repeat(3) + "if 1<2 then if 1<2 then 3 else 4;", 1, 77);
        EDGES.fault("of one place the least: a 7th (, SYNTAX", "blows = ((((((1(2))))));", 1, 15);
    }

    private static void tokens401() {
        String rains = "rain 0;".repeat(133);
        EDGES.good("ROOM: 400 TOKENS", "wind 0 0;".repeat(100));
        EDGES.good("ROOM: 400 TOKENS, blanks behind", "wind 0 -0;".repeat(8) + "wind 0 0;".repeat(87) + "pays = 1;".repeat(3) + " ".repeat(100));
        EDGES.good("ROOM: 399 TOKENS", rains);
        EDGES.fault("ROOM: 400 TOKENS, and its end", rains + "rain", 1, 935);
        EDGES.fault("ROOM: 400 TOKENS, and its end behind blanks", rains + "rain  ", 1, 937);
        EDGES.fault("ROOM: a 401st TOKEN", rains + "rain 0;", 2, 936);
        EDGES.fault("ROOM: a 401st TOKEN", rains + "rain 0", 2, 936);
        EDGES.fault("ROOM: a 401st TOKEN, a number that is WRONG", rains + "rain 101;", 2, 936);
        EDGES.fault("ROOM: a 401st TOKEN that begins a TELL", "wind 0 0;".repeat(100) + " word a;", 2, 901);
        EDGES.fault("ROOM: a 401st TOKEN in a LAW", "pays=1" + "+1".repeat(199) + ";", 2, 403);
        EDGES.good("ROOM: 400 TOKENS in a LAW", "pays=1" + "*1".repeat(198) + ";");
        EDGES.edge("ROOM: 400 TOKENS, the last of them in a LAW", "letter a 0 0;rain 0;takes=1" + "*1".repeat(193) + "*7;", "piece 0 7 = 7");
        EDGES.edge("ROOM: 400 TOKENS, the last of them behind an if", "letter a 0 0;takes=if 2<1 then 5 else 1" + "*1".repeat(191) + "*7;", "piece 0 7 = 7");
        EDGES.fault("ROOM: a 401st TOKEN ahead of SYNTAX", rains + "rain 0 ?", 2, 936);
    }

    private static void oneMoreOfASort() {
        EDGES.fault("ROOM: one more LETTER (at its first TOKEN)", LETTERS + "\n letter e 0 0;", 2, LETTERS.length() + 2);
        EDGES.fault("ROOM: one more WORD (at its first TOKEN)", WORDS + "word i;", 2, WORDS.length());
        EDGES.fault("ROOM: one more PICKER (at its first TOKEN)", PICKERS + "picker e 0 0 1;", 2, PICKERS.length());
        EDGES.fault("ROOM: one more, a NAME told already", LETTERS + "letter a 0 0;", 2, LETTERS.length());
        EDGES.fault("ROOM: one more, among others", WORDS + LETTERS + PICKERS + "word i;", 2, (WORDS + LETTERS + PICKERS).length());
        EDGES.good("ROOM: a sort without a bound", "blows = 1;takes = 1;pays = 1;wind 0 0;rain 0;seed 0;".repeat(9));
    }

    private static void fifthIf() {
        for (String law : LAWS) {
            String four = law + " = " + IFS;
            EDGES.good("ROOM: four ifs", four + "4;");
            EDGES.fault("ROOM: a 5th if of a LAW (at it)", four + "if 1<2 then 3 else 4;", 2, four.length());
            EDGES.fault("ROOM: a 5th if of a LAW (at it), and its end", four + "if", 2, four.length());
            EDGES.good("ROOM: four ifs of each LAW", four + "4;blows = " + IFS + "4;takes = " + IFS + "4;pays = " + IFS + "4;");
            EDGES.fault("ROOM: a 5th if of the last LAW", four + "4;" + four + "if 1<2", 2, 2 * four.length() + 2);
        }
    }

    private static void seventhWithin() {
        String deep = "((((((1))))))";
        EDGES.good("ROOM: six ( within one another", "blows = " + deep + ";");
        EDGES.good("ROOM: six ( again and again", "blows = " + (deep + "+" + deep + "*").repeat(5) + "1;");
        EDGES.good("ROOM: six ( in each E", "pays = if " + deep + "<" + deep + "then" + deep + "else" + deep + ";");
        EDGES.good("ROOM: seven ( beside one another", "blows = (1)+(1)*(1)-(1)/(1)+(1)+((((((1)+(1))+(1))+(1))+(1)));");
        EDGES.fault("ROOM: a 7th ( (at it)", "blows = (" + deep + ");", 2, 14);
        EDGES.fault("ROOM: a 7th ( (at it), and its end", "blows = (((((( (", 2, 15);
        EDGES.fault("ROOM: a 7th ( of the first E", "pays = if (" + deep + ")<1 then 1 else 1;", 2, 16);
        EDGES.fault("ROOM: a 7th ( of the second E", "pays = if 1<(" + deep + ") then 1 else 1;", 2, 18);
        EDGES.fault("ROOM: a 7th ( behind then", "pays = if 1<1 then (" + deep + ") else 1;", 2, 25);
        EDGES.fault("ROOM: a 7th ( behind else", "pays = if 1<1 then 1 else (" + deep + ");", 2, 32);
        EDGES.fault("ROOM: a 7th ( behind six that are closed", "blows = " + deep + "*(" + deep + ");", 2, 28);
        EDGES.fault("ROOM: a 7th ( within a PART", "blows = ((((((1+2*(3)))))));", 2, 18);
    }

    private static void twice() {
        EDGES.fault("TWICE: of LETTERS", "letter ab 0 0;letter ab 1 1;", 3, 21);
        EDGES.fault("TWICE: of WORDS", "word ab;word ab;", 3, 13);
        EDGES.fault("TWICE: of PICKERS", "picker ab 0 0 1;picker ab 0 0 1;", 3, 23);
        EDGES.good("TWICE: each for itself", "letter ab 0 0;word ab;picker ab 0 0 1;");
        EDGES.fault("TWICE: the first and the last one", "word a;word b;word c;word d;word e;word f;word g;word a;", 3, 54);
        EDGES.fault("TWICE: the first and the last one", "letter a 0 0;letter b 0 0;letter c 0 0;letter a 0 0;", 3, 46);
        EDGES.fault("TWICE: the first and the last one", "picker a 0 0 1;picker b 0 0 1;picker c 0 0 1;picker a 0 0 1;", 3, 52);
        EDGES.fault("TWICE: three times", "word a;word a;word a;", 3, 12);
        EDGES.good("TWICE: another NAME of the same signs", "word ab;word ba;word aab;word a;word b;");
        EDGES.good("TWICE: not by its eighth sign", "word abcdefgh;word abcdefgi;word abcdefg;");
        EDGES.fault("TWICE: eight signs", "word abcdefgh;word abcdefgi;word abcdefgh;", 3, 33);
        EDGES.edge("TWICE: not of a text ahead", "word a; letter a 0 0; picker a 0 0 1;", "tape:word a; letter a 0 0; picker a 0 0 1;", "read = 0");
        EDGES.edge("TWICE: not of a text with a FAULT", null, "tape:word a;?", "read = 1", "tape:word a;", "read = 0");
    }

    private static void wrong() {
        EDGES.fault("WRONG (at the INT)", "letter a   10 0;", 5, 11);
        EDGES.fault("WRONG (at the INT)", "letter a 0   8;", 5, 13);
        EDGES.fault("WRONG: the first INT", "picker a 10 8 0;", 5, 9);
        EDGES.fault("WRONG: the second INT", "picker a 9 8 0;", 5, 11);
        EDGES.fault("WRONG: the third INT", "picker a 9 7 0;", 5, 13);
        EDGES.fault("WRONG: the first STEP", "wind 3 3;", 5, 5);
        EDGES.fault("WRONG: the second STEP", "wind -2 -3;", 5, 9);
        EDGES.fault("WRONG: 9999", "letter a 9999 9999;", 5, 9);
    }

    private static final String YARD = "letter ab 3 3; letter cd 8 1; word ab; word cd; picker p 3 3 5; picker q 8 1 1; seed 7; rain 30; wind 1 1;"
            + "blows = lain - 1; takes = sign; pays = has;";
    private static final String[] GONE_ON = {"hours 1", "send 0 5 5", "hold 1", "hours 1", "drop 0", "tell 1 true", "give 0 1", "hold 2", "send 1 0 0"};

    private static void changesNothing() {
        String[] bad = {"letter e 0 0; word e; picker e 0 0 1; wind 0 0; rain 100; seed 1; blows = 1; takes = 9; pays = 9;?", "rain 100; word", LETTERS + "letter e 0 0;",
            "takes = 50; word a;word a;", "letter x 1 1; rain 100; wind 2 2; letter y 10 0;", "?"};
        for (String text : bad) {
            ConfettiRound round = Edges.replayed(YARD, GONE_ON);
            Check.feed(round, text);
            EDGES.same("a text with a FAULT: " + text, round.read() > 0 ? 1 : 0, 1);
            EDGES.same("the tape is empty then", round.count(8), 0);
            EDGES.alike("a text with a FAULT changes nothing but the tape: " + text, round, Edges.replayed(YARD, GONE_ON));
        }
    }

    private static void inPlaceOfTheOneAhead() {
        String sentence = "else it is in place of the one ahead: hour 0, all PIECES lie, hats empty, no goals";
        for (String text : List.of("", "letter e 0 0;", "word e;", "picker e 0 0 1;", "letter a 5 5; picker p 1 1 1; blows = 1;", YARD)) {
            ConfettiRound round = Edges.replayed(YARD, GONE_ON);
            Check.feed(round, text);
            round.read();
            EDGES.alike(sentence + ": " + text, round, Edges.replayed(text));
        }
        String plain = "letter ab 3 3; letter cd 8 1; picker p 9 1 5; rain 40; blows = sign - 1;";
        String plainest = "letter ab 3 3; picker p 3 3 5;";
        for (String text : List.of(plain, plainest, "rain 47;")) {
            String[] rows = {"tape:" + YARD, "read", "tape:" + YARD, "read", "tape:wind 2 2; seed 5; rain 9; takes = 3; blows = 1; ?", "read", "tape:" + text, "read", "place"};
            EDGES.alike("what is not told is as if no text had been ahead", Edges.replayed(YARD, rows), Edges.replayed(text));
        }
        String laws = "letter a 0 0; takes = 1" + "+1".repeat(60) + "; pays = 2" + "+1".repeat(60) + "; blows = 0" + "+0".repeat(60) + ";";
        String[] again = {"tape:" + laws, "read = 0", "tape:" + laws, "read = 0", "tape:" + laws, "read = 0", "tape:" + laws, "read = 0", "piece 0 7 = 61", "piece 0 6 = 0"};
        EDGES.edge("a text of long LAWS again and again", laws, again);
        EDGES.edge("nothing can be undone, nothing is TOLD, SLOTS hold nothing", YARD, "hours 1 = 1", "send 0 5 5 = true", "hold 1 = true", "tell 1 true = 0",
                "tape:" + YARD, "read = 0", "count 4 = 0", "count 5 = 4", "count 9 = 0", "count 10 = 0", "count 11 = 0", "count 13 = 0", "count 14 = 0",
                "picker 0 3 = 0", "picker 1 3 = 0", "undo ~ false", "restore 1 ~ false", "forget ~ 0");
    }
}
