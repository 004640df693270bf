/** Promises 1 and 6 to 36, each by ordinary calls, at its edges, and with wrong arguments. */
public final class PromisesTest {
    private static final Check CHECK = new Check();
    private static final int[] WRONG = {-1, -2, Integer.MIN_VALUE, Integer.MAX_VALUE};

    private static void due(String call, long got, long want) {
        CHECK.same(call, got, want);
    }

    private static void due(String call, boolean got, boolean want) {
        CHECK.same(call, got, want);
    }

    public static void main(String[] args) {
        newObject();
        piece();
        laws();
        pays();
        picker();
        lies();
        send();
        drop();
        give();
        hours();
        hourOrder();
        rain();
        undo();
        steps();
        round();
        share();
        closest();
        richest();
        made();
        together();
        missing();
        longest();
        whole();
        loss();
        stand();
        late();
        inHours();
        year();
        told();
        ask();
        slots();
        count();
        CHECK.end();
    }

    private static void newObject() {
        ConfettiRound x = new ConfettiRound();
        for (int what = 0; what <= 14; what++) {
            due("1: count(" + what + ")", x.count(what), 0);
        }
        due("1: place", x.place(), -1);
        due("1: NONE", ConfettiRound.NONE, -1);
        due("1: piece", x.piece(0, 0), -1);
        due("1: picker", x.picker(0, 0), -1);
        due("1: hold", x.hold(0), true);
        due("1: hours", x.hours(40), 40);
        due("1: restore", x.restore(0), true);
        due("1: hour", x.count(4), 0);
        due("1: made", x.made(4), 0);
        due("1: whole", x.whole(), 0);
        due("1: written", x.written(0, 0), 0);
    }

    private static void piece() {
        ConfettiRound x = CHECK.with("letter az 9 3; letter abcdefgh 4 7; picker p 0 3 2; blows = across - 8; takes = 90 + sign; wind 1 0;");
        due("6: sign", x.piece(1, 0), 26);
        due("6: sign", x.piece(9, 0), 8);
        due("6: letter", x.piece(1, 1), 0);
        due("6: letter", x.piece(2, 1), 1);
        due("6: X", x.piece(0, 2), 9);
        due("6: X by its rest", x.piece(1, 2), 0);
        due("6: X by its rest", x.piece(9, 2), 1);
        due("6: Y", x.piece(9, 3), 7);
        due("6: who", x.piece(1, 4), -2);
        due("6: lain", x.piece(1, 5), 0);
        due("6: blown", x.piece(0, 6), 1);
        due("6: not blown", x.piece(6, 6), 0);
        due("6: not blown at 0", x.piece(5, 6), 0);
        due("6: takes", x.piece(0, 7), 91);
        due("6: takes at most", x.piece(1, 7), 99);
        x.hours(2);
        due("6: who", x.piece(1, 4), 0);
        due("6: X in a HAT", x.piece(1, 2), 0);
        due("6: Y in a HAT", x.piece(1, 3), 3);
        x.send(0, 2, 3);
        x.hours(1);
        due("6: X in a HAT that went", x.piece(1, 2), 1);
        due("6: lain in a HAT", x.piece(1, 5), 0);
        due("6: blown in a HAT", x.piece(1, 6), 0);
        due("6: takes in a HAT", x.piece(1, 7), 0);
        due("6: sign in a HAT", x.piece(1, 0), 26);
        due("6: lain", x.piece(2, 5), 3);
        due("6: held at the edge, lain 0", x.piece(0, 5), 0);
        due("6: held at the edge", x.piece(0, 2), 9);
        due("6: what 8", x.piece(0, 8), -1);
        due("6: no such piece", x.piece(10, 0), -1);
        for (int wrong : WRONG) {
            due("6: wrong piece", x.piece(wrong, 0), -1);
            due("6: wrong what", x.piece(0, wrong), -1);
        }
    }

    private static int takes(String law) {
        return takes(law, 0);
    }

    /** TAKES of the sign c (3) at X 7, Y 4, the second PIECE there, which is number 1, in this hour. */
    private static int takes(String law, int hour) {
        ConfettiRound x = CHECK.with("letter a 7 4; letter c 7 4; takes = " + law + ";");
        x.hours(hour);
        return x.piece(1, 7);
    }

    private static void laws() {
        due("law: sign", takes("sign"), 3);
        due("law: across", takes("across"), 7);
        due("law: down", takes("down"), 4);
        due("law: here", takes("here"), 2);
        due("law: which", takes("which"), 1);
        due("law: hour", takes("hour", 5), 5);
        due("law: lain", takes("lain", 6), 6);
        due("law: hat is not told here", takes("5 + hat"), 5);
        due("law: has is not told here", takes("5 + has"), 5);
        due("law: order", takes("2 + 3 * 4"), 14);
        due("law: from the left", takes("20 - 5 - 3"), 12);
        due("law: from the left", takes("40 / 5 * 2"), 16);
        due("law: parentheses", takes("(2 + 3) * 4"), 20);
        due("law: towards 0", takes("(0 - 7) / 2 + 10"), 7);
        due("law: below 0", takes("0 - 7"), 0);
        due("law: above 99", takes("100"), 99);
        due("law: wraps to below 0", takes("9999 * 9999 * 9999 / 9999"), 0);
        due("law: wraps", takes("(65 * 1000 + 536) * (65 * 1000 + 536) + 5"), 5);
        due("law: wraps below 0", takes("(65 * 1000 + 536) * (32 * 1000 + 768) - 1 - 9999"), 99);
        due("law: least by -1 wraps", takes("(65 * 1000 + 536) * (32 * 1000 + 768) / (0 - 1) / 9999 / 9999 + 50"), 29);
        due("law: by 0", takes("5 + 1 / 0"), 0);
        due("law: by 0, then times 0", takes("5 + 0 * (1 / (sign - 3))"), 0);
        due("law: if holds", takes("if 1 < 2 then 5 else 6"), 5);
        due("law: if alike", takes("if 2 < 2 then 5 else 6"), 6);
        due("law: if not", takes("if 3 < 2 then 5 else 6"), 6);
        due("law: the first if", takes("if 3 < 2 then 5 else if 1 < 2 then 7 else if 0 < 2 then 8 else 9"), 7);
        due("law: by 0 not looked at", takes("if 1 < 2 then 5 else 1 / 0"), 5);
        due("law: by 0 not looked at", takes("if 2 < 1 then 1 / 0 else 6"), 6);
        due("law: by 0 behind it", takes("if 1 < 2 then 5 else if 1 / 0 < 1 then 7 else 6"), 5);
        due("law: by 0 in an if", takes("if 1 / 0 < 1 then 5 else 6"), 0);
        due("law: by 0 in an if on the right", takes("if 1 < 5 / 0 then 5 else 6"), 0);
        due("law: by 0 in an if ahead", takes("if 5 < 1 / 0 then 5 else if 1 < 2 then 7 else 6"), 0);
        due("law: no signed ints differ by wrap", takes("if (65 * 1000 + 536) * (32 * 1000 + 768) < 0 then 5 else 6"), 5);
        due("law: deep", takes("1 + 2 * (1 + 2 * (1 + 2 * (1 + 2 * (1 + (1 + (0))))))"), 47);
        due("law: the last one", takes("5; takes = 6"), 6);
        due("law: 1 if not told", CHECK.with("letter a 0 0;").piece(0, 7), 1);
        due("law: BLOWS 0 if not told", CHECK.with("letter a 0 0;").piece(0, 6), 0);
        due("law: BLOWS 1", CHECK.with("letter a 0 0; blows = sign;").piece(0, 6), 1);
        due("law: BLOWS below 0", CHECK.with("letter a 0 0; blows = 0 - sign;").piece(0, 6), 0);
        due("law: BLOWS by 0", CHECK.with("letter a 0 0; blows = 1 / lain;").piece(0, 6), 0);
    }

    /** PAYS of the sign c (3) to the second PICKER, who has 2 in a HAT for 9, in this hour. */
    private static int pays(String law, int hour) {
        ConfettiRound x = CHECK.with("letter c 7 4; letter a 7 4; picker o 0 0 1; picker p 7 4 9; pays = " + law + ";");
        x.hours(hour);
        return x.picker(1, 6);
    }

    private static void pays() {
        due("pays: sign", pays("sign", 1), 4);
        due("pays: hat", pays("hat", 1), 18);
        due("pays: has", pays("has", 1), 4);
        due("pays: which", pays("which", 1), 2);
        due("pays: hour", pays("hour", 7), 14);
        due("pays: not told", pays("1 + across + down + lain + here", 3), 2);
        due("pays: at most 99 each", pays("if sign < 2 then 500 else 3", 3), 102);
        due("pays: at least 0 each", pays("if sign < 2 then 0 - 5 else 3", 3), 3);
        ConfettiRound x = CHECK.with("letter ab 0 0; picker p 0 0 9; picker q 1 0 9;");
        due("36: owed to all", x.count(7), 0);
        x.hours(1);
        due("36: 1 if not told", x.count(7), 2);
        due("7: owed", x.picker(0, 6), 1);
    }

    private static void picker() {
        ConfettiRound x = CHECK.with("letter ab 3 2; picker p 3 2 1; picker q 9 7 32;");
        due("7: X", x.picker(1, 0), 9);
        due("7: Y", x.picker(1, 1), 7);
        due("7: HAT", x.picker(1, 2), 32);
        due("7: has", x.picker(0, 3), 0);
        due("7: goal", x.picker(0, 4), -2);
        due("7: goal", x.picker(0, 5), -2);
        x.hours(1);
        due("7: has", x.picker(0, 3), 1);
        x.send(0, 0, 7);
        due("7: goal", x.picker(0, 4), 0);
        due("7: goal", x.picker(0, 5), 7);
        due("7: what 7", x.picker(0, 7), -1);
        due("7: nobody", x.picker(2, 0), -1);
        for (int wrong : WRONG) {
            due("7: wrong picker", x.picker(wrong, 0), -1);
            due("7: wrong what", x.picker(0, wrong), -1);
        }
    }

    private static void lies() {
        ConfettiRound x = CHECK.with("letter ab 9 7; letter c 0 7; picker p 0 7 1;");
        due("8: lies", x.lies(0, 7), 2);
        due("8: lies", x.lies(9, 7), 1);
        due("8: lies", x.lies(1, 7), 0);
        x.hours(1);
        due("8: lies", x.lies(0, 7), 1);
        due("8: no cell", x.lies(10, 0), -1);
        due("8: no cell", x.lies(0, 8), -1);
        for (int wrong : WRONG) {
            due("8: wrong x", x.lies(wrong, 0), -1);
            due("8: wrong y", x.lies(0, wrong), -1);
        }
    }

    private static void send() {
        ConfettiRound x = CHECK.with("picker p 4 4 1; picker q 0 0 1;");
        due("9: own cell, no goal", x.send(0, 4, 4), false);
        due("9: no goal, none", x.send(0, -1, 3), false);
        due("9: sent", x.send(0, 9, 7), true);
        due("9: it is so", x.send(0, 9, 7), false);
        due("9: sent elsewhere", x.send(0, 9, 6), true);
        due("9: to his own cell", x.send(0, 4, 4), true);
        due("9: no goal then", x.picker(0, 4), -2);
        due("9: sent", x.send(0, 0, 0), true);
        due("9: no goal, y not looked at", x.send(0, -1, 99), true);
        due("9: no goal then", x.count(13), 0);
        due("9: undone", x.undo(), true);
        due("9: goal again", x.picker(0, 5), 0);
        due("9: nobody", x.send(2, 0, 0), false);
        due("9: nobody, no goal", x.send(2, -1, 0), false);
        due("9: no cell", x.send(1, 10, 0), false);
        due("9: no cell", x.send(1, 0, 8), false);
        due("9: no cell", x.send(1, 0, -1), false);
        due("9: no cell", x.send(1, -2, 0), false);
        due("9: nobody", x.send(-1, 0, 0), false);
        due("9: things done", x.count(9), 4);
    }

    private static void drop() {
        ConfettiRound x = CHECK.with("letter ab 4 4; picker p 4 4 2; blows = 1; wind 0 0;");
        due("10: it lies", x.drop(0), false);
        x.hours(1);
        x.send(0, 6, 4);
        x.hours(1);
        due("10: dropped too late for the second", x.piece(1, 4), 0);
        due("10: dropped", x.drop(0), true);
        due("10: at his cell", x.piece(0, 2), 5);
        due("10: lies", x.piece(0, 4), -2);
        due("10: lain", x.piece(0, 5), 0);
        due("10: has", x.picker(0, 3), 1);
        due("10: it lies", x.drop(0), false);
        x.hours(1);
        due("10: left behind", x.piece(0, 2), 5);
        due("10: undone", x.undo(), true);
        due("10: undone", x.undo(), true);
        due("10: in the HAT again", x.piece(0, 4), 0);
        for (int wrong : WRONG) {
            due("10: no piece", x.drop(wrong), false);
        }
        due("10: no piece", x.drop(2), false);
    }

    private static void give() {
        ConfettiRound x = CHECK.with("letter abcd 4 4; letter e 5 5; picker p 4 4 9; picker q 5 5 3; picker r 0 0 1;");
        x.send(0, 7, 4);
        x.hours(1);
        x.hours(2);
        due("11: has", x.picker(0, 3), 3);
        due("11: has", x.picker(1, 3), 1);
        due("11: as far as there is room", x.give(0, 1), 2);
        due("11: the lowest first", x.piece(1, 4), 1);
        due("11: the lowest first", x.piece(2, 4), 1);
        due("11: the rest stays", x.piece(3, 4), 0);
        due("11: where it is", x.piece(1, 2), 5);
        due("11: full", x.count(14), 2);
        due("11: to a full one", x.give(0, 1), 0);
        due("11: of one who has none", x.give(2, 0), 0);
        due("11: nothing given is a thing done, too", x.count(9), 6);
        due("11: back", x.give(1, 0), 3);
        due("11: has", x.picker(0, 3), 4);
        due("11: has", x.picker(1, 3), 0);
        due("11: one and the same", x.give(0, 0), -1);
        due("11: nobody", x.give(0, 3), -1);
        due("11: nobody", x.give(3, 0), -1);
        due("11: nobody", x.give(-1, 0), -1);
        due("11: nobody", x.give(0, -1), -1);
        due("11: things done", x.count(9), 7);
    }

    private static void hours() {
        ConfettiRound x = CHECK.with("letter a 0 0; picker p 5 3 1;");
        due("12: 0", x.hours(0), 0);
        due("12: 0 is no thing done", x.count(9), 0);
        due("12: 40", x.hours(40), 40);
        due("12: 1", x.hours(1), 41);
        due("12: 0", x.hours(0), 41);
        due("12: things done", x.count(9), 2);
        for (int wrong : WRONG) {
            due("12: wrong n", x.hours(wrong), -1);
        }
        due("12: 41", x.hours(41), -1);
        due("12: nothing happened", x.count(4), 41);
        due("12: lain", x.piece(0, 5), 41);
        for (int i = 0; i < 25; i++) {
            x.hours(40);
        }
        due("12: lain at most", x.piece(0, 5), 999);
        x.send(0, 3, 5);
        x.hours(2);
        due("12: by X first", x.picker(0, 0), 3);
        due("12: by X first", x.picker(0, 1), 3);
        x.hours(1);
        due("12: then by Y", x.picker(0, 1), 4);
        due("12: goal", x.picker(0, 5), 5);
        x.hours(1);
        due("12: there", x.picker(0, 1), 5);
        due("12: no goal", x.picker(0, 5), -2);
        x.send(0, 4, 4);
        x.hours(3);
        due("12: right", x.picker(0, 0), 4);
        due("12: up", x.picker(0, 1), 4);
    }

    private static void hourOrder() {
        ConfettiRound x = CHECK.with("letter ab 3 0; letter c 3 0; picker p 2 0 1; picker q 4 0 5; blows = 2 - here; wind 1 1;");
        x.send(0, 3, 0);
        x.send(1, 3, 0);
        x.hours(1);
        due("hour: gone first, then the first picks the lowest", x.piece(0, 4), 0);
        due("hour: the second picks what is left", x.piece(2, 4), 1);
        due("hour: what is not at his cell lies", x.piece(1, 4), -2);
        due("hour: blown by how it is then", x.piece(1, 2), 5);
        due("hour: blown by how it is then", x.piece(1, 3), 1);
        ConfettiRound y = CHECK.with("letter a 8 6; letter b 8 6; letter c 9 7; blows = if which < 1 then 1 else here - 1; wind 1 1;");
        y.hours(1);
        due("hour: all at once", y.piece(0, 2), 9);
        due("hour: all at once", y.piece(1, 2), 9);
        due("hour: c is alone as it is looked at", y.piece(2, 5), 1);
        y.hours(1);
        due("hour: held to the yard", y.piece(2, 2), 9);
        due("hour: held to the yard", y.piece(2, 3), 7);
        due("hour: lain 0 though held", y.piece(2, 5), 0);
        ConfettiRound z = CHECK.with("letter a 1 1; blows = 1; wind -2 -2;");
        z.hours(1);
        due("hour: held to 0", z.piece(0, 2), 0);
        due("hour: held to 0", z.piece(0, 3), 0);
        ConfettiRound w = CHECK.with("letter a 1 1; blows = hour;");
        w.hours(1);
        due("hour: hour 0 is looked at", w.piece(0, 2), 1);
        w.hours(1);
        due("hour: wind 1 0 if not told", w.piece(0, 2), 2);
        due("hour: wind 1 0 if not told", w.piece(0, 3), 1);
    }

    /** LOT 100 of the SEED 7 and 4 * the hour: 80, 80, 91, 50, 11, 19, 2, 53. */
    private static void rain() {
        int[] lots = {80, 80, 91, 50, 11, 19, 2, 53};
        ConfettiRound x = CHECK.with("letter a 0 0; blows = 1; rain 51; seed 7;");
        int moved = 0;
        for (int lot : lots) {
            due("36: rain in this hour", x.count(12), lot < 51 ? 1 : 0);
            due("6: would be blown, rain or not", x.piece(0, 6), 1);
            moved += lot < 51 ? 0 : 1;
            x.hours(1);
            due("rain: X", x.piece(0, 2), moved);
            due("rain: lain", x.piece(0, 5) > 0, lot < 51);
        }
        ConfettiRound y = CHECK.with("letter a 0 0; rain 50; seed 7;");
        y.hours(3);
        due("rain: 50 is not less than 50", y.count(12), 0);
        due("rain: none if not told", CHECK.with("seed 0;").count(12), 0);
        due("rain: seed 0 if not told", CHECK.with("rain 47;").count(12), 1);
        due("rain: seed 0 if not told", CHECK.with("rain 46;").count(12), 0);
        due("rain: the last one", CHECK.with("rain 100; rain 0; rain 46;").count(12), 0);
        due("rain: 100", CHECK.with("rain 100; seed 9999;").count(12), 1);
        due("rain: 90", CHECK.with("rain 90; seed 9999;").count(12), 1);
        due("rain: 89", CHECK.with("rain 89; seed 9999;").count(12), 0);
    }

    private static void undo() {
        ConfettiRound x = CHECK.with("letter ab 4 4; picker p 4 4 2; picker q 0 0 2;");
        due("13: none", x.undo(), false);
        x.hours(1);
        x.send(0, 5, 4);
        x.hours(1);
        x.give(0, 1);
        x.drop(0);
        due("13: things", x.count(9), 5);
        due("13: drop", x.undo(), true);
        due("13: drop", x.piece(0, 4), 1);
        due("13: give", x.undo(), true);
        due("13: give", x.piece(0, 4), 0);
        due("13: has", x.picker(1, 3), 0);
        due("13: hours", x.undo(), true);
        due("13: hours", x.count(4), 1);
        due("13: goal", x.picker(0, 4), 5);
        due("13: send", x.undo(), true);
        due("13: send", x.picker(0, 4), -2);
        due("13: hours", x.undo(), true);
        due("13: lies", x.piece(0, 4), -2);
        due("13: has", x.picker(0, 3), 0);
        due("13: none", x.undo(), false);
        for (int i = 0; i < 45; i++) {
            x.hours(1);
        }
        due("13: the last 40", x.count(9), 40);
        for (int i = 0; i < 40; i++) {
            due("13: undone", x.undo(), true);
        }
        due("13: no more", x.undo(), false);
        due("13: hour", x.count(4), 5);
        x.tell(1, true);
        due("13: what is TOLD is no thing done", x.undo(), false);
        due("13: still TOLD", x.count(10), 1);
    }

    private static void steps() {
        ConfettiRound x = CHECK.with("picker p 4 4 2;");
        due("14: none", x.steps(0, 4, 4), 0);
        due("14: far", x.steps(0, 9, 0), 9);
        due("14: far", x.steps(0, 0, 7), 7);
        due("14: nobody", x.steps(1, 0, 0), -1);
        due("14: nobody", x.steps(-1, 0, 0), -1);
        due("14: no cell", x.steps(0, 10, 0), -1);
        due("14: no cell", x.steps(0, 0, 8), -1);
        due("14: no cell", x.steps(0, -1, 0), -1);
        due("14: no cell", x.steps(0, 0, -1), -1);
    }

    private static void round() {
        ConfettiRound x = CHECK.with("letter a 0 3; letter b 0 4; letter c 0 7; picker p 0 5 1; picker q 0 0 1; picker r 0 7 1;");
        due("15: up, then down", x.round(0, 0), 6);
        due("15: of alike ones the lowest Y", x.round(0, 1), 30);
        due("15: all on the way", x.round(1, 0), 7);
        due("15: all on the way", x.round(1, 1), 30);
        due("15: his own needs none", x.round(2, 0), 4);
        due("15: his own is not gone to", x.round(2, 1), 40);
        due("15: wrong what", x.round(0, 2), -1);
        due("15: wrong what", x.round(0, -1), -1);
        due("15: nobody", x.round(3, 0), -1);
        due("15: nobody", x.round(-1, 0), -1);
        ConfettiRound y = CHECK.with("letter abcdefgh 0 0; letter ij 8 0; picker p 0 0 1; picker q 0 1 1;");
        due("15: nine and his own", y.round(0, 0), 9);
        due("15: ten", y.round(1, 0), 10);
        due("15: ten", y.round(1, 1), 0);
        ConfettiRound z = CHECK.with("letter abcdefgh 0 0; letter ij 8 0; letter k 5 5; picker p 0 0 1; picker q 0 1 1;");
        due("15: ten and his own", z.round(0, 0), 9 + 4 + 5);
        due("15: eleven", z.round(1, 0), -3);
        due("15: eleven", z.round(1, 1), -3);
        due("15: eleven, wrong what", z.round(1, 2), -1);
        ConfettiRound w = CHECK.with("letter a 4 3; letter b 3 4; letter c 5 4; letter d 4 5; picker p 4 4 1;");
        due("15: the lowest Y, then X", w.round(0, 1), 34);
        due("15: four about him", w.round(0, 0), 7);
        ConfettiRound v = CHECK.with("letter b 3 4; letter c 5 4; picker p 4 4 1;");
        due("15: the lowest X", v.round(0, 1), 43);
        ConfettiRound u = CHECK.with("letter a 4 4; picker p 4 4 1;");
        due("15: nothing but his own", u.round(0, 0), 0);
        due("15: nothing but his own", u.round(0, 1), -2);
        ConfettiRound t = CHECK.with("letter aa 4 4; letter b 4 4; picker p 3 4 1; blows = 1;");
        due("15: nothing is blown, HAT not looked at", t.round(0, 0), 2);
    }

    private static void share() {
        ConfettiRound x = CHECK.with("letter a 0 0; letter b 9 0; letter c 1 0; letter d 8 0; picker p 0 1 1; picker q 9 1 1; picker r 4 7 1;");
        due("16: each his own", x.share(0, 1), 2);
        due("16: likewise", x.share(1, 0), 2);
        due("16: one is far", x.share(0, 2), 10);
        due("16: one and the same", x.share(1, 1), -1);
        due("16: nobody", x.share(0, 3), -1);
        due("16: nobody", x.share(-1, 0), -1);
        due("16: nobody", x.share(0, -1), -1);
        ConfettiRound y = CHECK.with("letter abcdefgh 0 0; letter ij 8 0; picker p 0 0 1; picker q 9 0 1;");
        due("16: ten", y.share(0, 1), 4);
        ConfettiRound z = CHECK.with("letter abcdefgh 0 0; letter ij 8 0; letter k 0 7; picker p 0 7 1; picker q 9 0 1;");
        due("16: eleven", z.share(0, 1), -3);
        due("16: eleven, one and the same", z.share(0, 0), -1);
        ConfettiRound w = CHECK.with("picker p 0 7 1; picker q 9 0 1;");
        due("16: nothing lies", w.share(0, 1), 0);
        ConfettiRound v = CHECK.with("letter a 0 0; letter b 0 3; picker p 0 0 1; picker q 0 2 1;");
        due("16: his own needs none", v.share(0, 1), 1);
    }

    private static void closest() {
        ConfettiRound x = CHECK.with("picker p 0 0 1; picker q 4 0 1; picker r 4 0 1;");
        due("17: the first of alike ones", x.closest(2, 0), 0);
        due("17: the second", x.closest(3, 0), 1);
        due("17: far", x.closest(9, 7), 1);
        due("17: no cell", x.closest(10, 0), -1);
        due("17: no cell", x.closest(0, 8), -1);
        due("17: no cell", x.closest(-1, 0), -1);
        due("17: no cell", x.closest(0, -1), -1);
        due("17: no pickers", CHECK.with("letter a 0 0;").closest(9, 7), -2);
    }

    private static void richest() {
        ConfettiRound x = CHECK.with("letter abc 3 5; letter d 5 5; letter e 4 5; letter f 9 4; picker p 4 5 9;");
        due("18: the lowest X", x.richest(0), 54);
        due("18: how many", x.richest(1), 2);
        x.hours(1);
        due("18: what lies", x.richest(0), 55);
        due("18: wrong what", x.richest(2), -1);
        due("18: wrong what", x.richest(-1), -1);
        due("18: the lowest Y", CHECK.with("letter a 0 5; letter b 9 4;").richest(0), 49);
        ConfettiRound y = CHECK.with("picker p 4 5 9;");
        due("18: nothing lies", y.richest(0), -2);
        due("18: nothing lies", y.richest(1), -2);
        due("18: nothing lies, wrong what", y.richest(2), -1);
    }

    private static final String HEAPS = "letter noon 0 0; letter on 4 0; picker p 0 0 1; picker q 4 0 9; picker r 1 0 9;"
            + "word no; word noon; word onon; word ooo; word nnno; word o; word nonono; word z;";

    private static void made() {
        ConfettiRound x = CHECK.with(HEAPS);
        due("19: all", x.made(5), 1 | 2 | 4 | 8 | 16 | 32 | 64);
        due("19: what lies", x.made(4), 127);
        due("19: an empty HAT", x.made(0), 0);
        x.send(1, 5, 0);
        x.hours(2);
        due("19: a HAT with n", x.made(0), 0);
        due("19: a HAT with n", x.made(1), 0);
        due("19: a HAT with o", x.made(2), 32);
        due("19: what lies", x.made(4), 1 | 32);
        due("19: all, in HATS too", x.made(5), 127);
        due("19: nobody's HAT", x.made(3), -1);
        due("19: no heap", x.made(6), -1);
        for (int wrong : WRONG) {
            due("19: no heap", x.made(wrong), -1);
        }
        due("19: no words", CHECK.with("letter a 0 0;").made(5), 0);
    }

    private static void together() {
        ConfettiRound x = CHECK.with(HEAPS);
        due("20: n n n o o o", x.together(0), 2);
        due("20: no, and noon", x.together(1), 1 | 2);
        x.hours(5);
        due("20: all PIECES, wherever", x.together(0), 2);
        due("20: wrong what", x.together(2), -1);
        due("20: wrong what", x.together(-1), -1);
        ConfettiRound y = CHECK.with("letter abcd 0 0; word abcd; word cd; word ab; word c; word d; word ae;");
        due("20: most words", y.together(0), 3);
        due("20: which", y.together(1), 4 | 8 | 16);
        ConfettiRound z = CHECK.with("letter abcdefgh 0 0; word h; word g; word f; word e; word d; word c; word b; word a;");
        due("20: all eight", z.together(1), 255);
        due("20: all eight", z.together(0), 8);
        due("20: none", CHECK.with("letter a 0 0; word b;").together(1), 0);
    }

    private static void missing() {
        ConfettiRound x = CHECK.with(HEAPS);
        due("21: none", x.missing(6, 5), 0);
        due("21: none", x.missing(6, 4), 0);
        due("21: all", x.missing(6, 0), 6);
        due("21: z", x.missing(7, 5), 1);
        x.hours(1);
        due("21: n is there", x.missing(4, 0), 3);
        due("21: what lies", x.missing(3, 4), 2);
        due("21: no word", x.missing(8, 5), -1);
        due("21: nobody's HAT", x.missing(0, 3), -1);
        due("21: no heap", x.missing(0, 6), -1);
        for (int wrong : WRONG) {
            due("21: no word", x.missing(wrong, 5), -1);
            due("21: no heap", x.missing(0, wrong), -1);
        }
    }

    private static void longest() {
        ConfettiRound x = CHECK.with(HEAPS);
        due("22: longest", x.longest(5), 6);
        due("22: none", x.longest(0), -2);
        x.hours(1);
        due("22: what lies: n o n", x.longest(4), 0);
        due("22: of o", x.longest(2), 5);
        due("22: nobody's HAT", x.longest(3), -1);
        due("22: no heap", x.longest(6), -1);
        due("22: no heap", x.longest(-1), -1);
        due("22: the first of alike ones", CHECK.with("letter abc 0 0; word a; word bc; word ab;").longest(5), 1);
    }

    private static void whole() {
        ConfettiRound x = CHECK.with("letter ab 0 0; letter c 2 0; letter d 5 5; picker p 0 0 9; picker q 1 0 9; picker r 2 0 9;");
        due("23: none", x.whole(), 0);
        x.hours(1);
        due("23: in two HATS", x.whole(), 3);
        x.drop(1);
        due("23: one lies", x.whole(), 2);
        due("23: no letters", CHECK.with("word a;").whole(), 0);
    }

    private static void loss() {
        ConfettiRound x = CHECK.with("letter ab 0 0; picker p 3 0 9; takes = 10 * lain + hour; rain 100; blows = if lain < 2 then 0 else 1;");
        due("24: now", x.loss(0), 0);
        due("24: in an hour", x.loss(1), 22);
        due("24: in two", x.loss(2), 44);
        due("24: blown, rain or not", x.loss(3), 6);
        x.send(0, 1, 0);
        due("24: he goes", x.loss(2), 22);
        due("24: nothing happens", x.count(4), 0);
        due("24: 40", x.loss(40) >= 0, true);
        due("24: 41", x.loss(41), -1);
        for (int wrong : WRONG) {
            due("24: wrong n", x.loss(wrong), -1);
        }
        due("24: held to 99 each", CHECK.with("letter ab 0 0; takes = 500;").loss(40), 198);
        due("24: held to 0 each", CHECK.with("letter ab 0 0; takes = if sign < 2 then 0 - 50 else 7;").loss(0), 7);
    }

    private static void stand() {
        ConfettiRound x = CHECK.with("letter ab 4 4; letter c 9 7; picker p 2 4 9; takes = sign; rain 100;");
        due("25: none to be had", x.stand(0, 1, 0), 0);
        due("25: none to be had", x.stand(0, 1, 1), 6);
        due("25: a in two", x.stand(0, 2, 1), 5);
        due("25: in two hours any way to the right", x.stand(0, 2, 0), 4);
        due("25: b in three", x.stand(0, 3, 1), 3);
        due("25: b in three", x.stand(0, 3, 0), 5);
        due("25: not all in nine", x.stand(0, 9, 1), 3);
        due("25: all in ten", x.stand(0, 10, 1), 0);
        due("25: twelve", x.stand(0, 12, 1), 0);
        due("25: twelve", x.stand(0, 12, 0), 79);
        due("25: nothing happens", x.count(13), 0);
        due("25: thirteen", x.stand(0, 13, 0), -1);
        due("25: none", x.stand(0, 0, 0), -1);
        due("25: wrong what", x.stand(0, 1, 2), -1);
        due("25: wrong what", x.stand(0, 1, -1), -1);
        due("25: nobody", x.stand(1, 1, 0), -1);
        due("25: nobody", x.stand(-1, 1, 0), -1);
        ConfettiRound y = CHECK.with("letter a 4 4; letter z 0 0; picker p 4 4 9; picker q 1 0 9; takes = sign;");
        y.send(0, 9, 4);
        due("25: the other one goes off", y.stand(1, 1, 1), 1);
        y.send(1, 0, 0);
        due("25: he is best sent nowhere", y.stand(0, 1, 1), 0);
        due("25: his own cell is a choice", y.stand(0, 1, 0), 44);
        y.send(1, -1, 0);
        due("25: others as they go", y.stand(0, 1, 1), 26);
        due("25: nothing lies then", CHECK.with("letter a 0 0; picker p 4 4 1; picker q 0 0 1;").stand(0, 4, 1), 0);
    }

    private static void late() {
        ConfettiRound x = CHECK.with("letter ab 4 4; picker p 2 4 9; rain 100; blows = 1; wind 1 0;");
        due("26: not", x.late(), -2);
        x.send(0, 9, 4);
        due("26: as he comes to the edge, rain or not", x.late(), 7);
        due("26: nothing happens", x.count(4), 0);
        x.hours(7);
        due("26: rain had them lie", x.late(), 0);
        due("26: nothing", CHECK.with("picker p 2 4 9;").late(), 0);
        ConfettiRound y = CHECK.with("letter a 0 0; picker p 1 0 1; blows = if hour < 99 then 0 else 1;");
        due("26: blown in the hour 99, there in the hour 100", y.late(), -2);
        y.hours(1);
        due("26: behind 100", y.late(), 100);
        y.hours(1);
        due("26: behind 99", y.late(), 99);
    }

    /** LOT 100 of the SEED 7 and 4 * the hour: 80, 80, 91, 50, 11, 19, 2, 53. */
    private static void inHours() {
        ConfettiRound x = CHECK.with("letter ab 0 0; picker p 9 0 1; blows = 1; wind 1 1; rain 51; seed 7;");
        x.send(0, 5, 4);
        due("27: now", x.pieceIn(0, 0, 0), 0);
        due("27: X", x.pieceIn(0, 2, 0), 2);
        due("27: Y", x.pieceIn(1, 3, 1), 3);
        due("27: X", x.pieceIn(1, 3, 0), 4);
        due("27: lies", x.pieceIn(0, 7, 2), -2);
        due("27: rain for four hours", x.pieceIn(0, 7, 1), 3);
        due("27: blown on", x.pieceIn(0, 8, 1), 4);
        due("28: X", x.pickerIn(0, 3, 0), 6);
        due("28: Y", x.pickerIn(0, 3, 1), 0);
        due("28: there", x.pickerIn(0, 40, 0), 5);
        due("28: there", x.pickerIn(0, 40, 1), 4);
        due("28: now", x.pickerIn(0, 0, 0), 9);
        due("28: has", x.pickerIn(0, 40, 2), 1);
        due("27: who has b", x.pieceIn(1, 9, 2), 0);
        due("27: in a HAT: the PICKER's", x.pieceIn(1, 9, 0), 5);
        due("28: has, not yet", x.pickerIn(0, 8, 2), 0);
        due("27: nothing happens", x.count(4), 0);
        due("27: no piece", x.pieceIn(2, 0, 0), -1);
        due("27: no piece", x.pieceIn(-1, 0, 0), -1);
        due("27: no n", x.pieceIn(0, 41, 0), -1);
        due("27: no n", x.pieceIn(0, -1, 0), -1);
        due("27: no what", x.pieceIn(0, 0, 3), -1);
        due("27: no what", x.pieceIn(0, 0, -1), -1);
        due("28: nobody", x.pickerIn(1, 0, 0), -1);
        due("28: nobody", x.pickerIn(-1, 0, 0), -1);
        due("28: no n", x.pickerIn(0, 41, 0), -1);
        due("28: no n", x.pickerIn(0, -1, 0), -1);
        due("28: no what", x.pickerIn(0, 0, 3), -1);
        due("28: no what", x.pickerIn(0, 0, -1), -1);
    }

    /** In the hour 0 the LOT 100 of the SEEDS 9999 .. 10002 is 89, 65, 46, 57. */
    private static void year() {
        String yard = "letter a 0 0; picker p 1 0 1; blows = if 0 < hour then 0 else 1; seed 9999; rain ";
        due("29: no rain", CHECK.with(yard + "0;").year(2, 4), 4);
        due("29: not there yet", CHECK.with(yard + "0;").year(1, 4), 0);
        due("29: always rain", CHECK.with(yard + "100;").year(2, 4), 0);
        due("29: by SEEDS", CHECK.with(yard + "58;").year(2, 4), 2);
        due("29: by SEEDS", CHECK.with(yard + "57;").year(2, 4), 3);
        due("29: by SEEDS", CHECK.with(yard + "66;").year(2, 4), 1);
        due("29: the first alone", CHECK.with(yard + "66;").year(2, 1), 1);
        due("29: the first two", CHECK.with(yard + "65;").year(40, 2), 2);
        ConfettiRound x = CHECK.with(yard + "50;");
        due("29: now", x.year(0, 20), 0);
        due("29: nothing happens", x.count(4), 0);
        due("29: no n", x.year(41, 1), -1);
        due("29: no n", x.year(-1, 1), -1);
        due("29: no s", x.year(1, 0), -1);
        due("29: no s", x.year(1, 21), -1);
        due("29: no s", x.year(1, -1), -1);
        due("29: nothing lies", CHECK.with("rain 50;").year(0, 20), 20);
    }

    private static void told() {
        ConfettiRound x = CHECK.with("word ab; word bc; word ca; word abc;");
        due("30: first", x.tell(1, true), 0);
        due("30: second", x.tell(2, false), 1);
        due("32: all", x.written(0, 0), 4);
        due("32: all", x.written(0, 1), 15);
        due("32: has a", x.written(1, 1), 1 | 4 | 8);
        due("32: has a", x.written(1, 0), 3);
        due("32: has not b", x.written(2, 1), 4);
        due("32: no k", x.written(3, 0), -1);
        due("32: no k", x.written(-1, 0), -1);
        due("32: no what", x.written(0, 2), -1);
        due("32: no what", x.written(0, -1), -1);
        due("30: against itself", x.tell(1, false), 2);
        due("32: none", x.written(3, 0), 0);
        due("33: none", x.ask(3), -2);
        for (int i = 3; i < 20; i++) {
            due("30: number", x.tell(26, i % 2 == 0), i);
        }
        due("30: twenty are there", x.tell(5, true), -1);
        due("36: TOLD", x.count(10), 20);
        due("31: forgotten", x.forget(), 20);
        due("31: none", x.forget(), 0);
        due("36: TOLD", x.count(10), 0);
        due("32: all again", x.written(0, 0), 4);
        due("32: no k", x.written(1, 0), -1);
        due("30: no sign", x.tell(0, true), -1);
        due("30: no sign", x.tell(27, true), -1);
        due("30: no sign", x.tell(-1, true), -1);
        due("36: TOLD", x.count(10), 0);
        due("30: z", x.tell(26, true), 0);
        due("30: a", x.tell(1, true), 1);
    }

    private static void ask() {
        ConfettiRound x = CHECK.with("word ab; word bc; word cd; word de; word bx;");
        due("33: b or not: 3, 2", x.ask(0), 2);
        x.tell(2, true);
        due("33: a or not: 1, 2", x.ask(1), 1);
        x.tell(1, false);
        due("33: bc, bx", x.ask(2), 3);
        x.tell(24, true);
        due("33: one is left", x.ask(3), 1);
        due("33: no k", x.ask(4), -1);
        due("33: no k", x.ask(-1), -1);
        due("33: no words", CHECK.with("letter a 0 0;").ask(0), -2);
        due("33: z, the last SIGN", CHECK.with("word az; word a;").ask(0), 26);
        due("33: by the first", CHECK.with("word z; word y;").ask(0), 25);
    }

    private static void slots() {
        ConfettiRound x = CHECK.with("letter ab 4 4; picker p 3 4 9; word ab;");
        due("35: nothing is held", x.restore(0), false);
        due("34: held", x.hold(2), true);
        x.send(0, 5, 4);
        x.tell(1, true);
        x.hours(2);
        due("34: held", x.hold(0), true);
        due("36: SLOTS", x.count(11), 2);
        due("36: things done stay", x.count(9), 2);
        due("35: gone on from", x.restore(2), true);
        due("35: hour", x.count(4), 0);
        due("35: lying", x.count(5), 2);
        due("35: goal", x.count(13), 0);
        due("35: has", x.picker(0, 3), 0);
        due("35: nothing can be undone", x.undo(), false);
        due("35: TOLD stays", x.count(10), 1);
        x.hours(1);
        due("35: it stays there", x.restore(2), true);
        due("35: hour", x.count(4), 0);
        due("35: the other one", x.restore(0), true);
        due("35: hour", x.count(4), 2);
        due("35: has", x.picker(0, 3), 2);
        due("35: X", x.picker(0, 0), 5);
        due("34: held anew", x.hold(2), true);
        due("36: SLOTS", x.count(11), 2);
        due("35: nothing is held", x.restore(1), false);
        due("34: no slot", x.hold(3), false);
        due("34: no slot", x.hold(-1), false);
        due("35: no slot", x.restore(3), false);
        due("35: no slot", x.restore(-1), false);
        Check.feed(x, "word");
        x.restore(0);
        due("35: the tape stays", x.count(8), 4);
    }

    private static void count() {
        ConfettiRound x = CHECK.with("letter ab 4 4; letter bc 5 4; word ab; word z; word y; picker p 4 4 1; picker q 5 4 1; picker r 0 0 4; picker s 9 7 4;");
        int[] first = {2, 4, 3, 4, 0, 4, 3, 0, 0, 0, 0, 0, 0, 0, 0};
        for (int what = 0; what < first.length; what++) {
            due("36: count(" + what + ")", x.count(what), first[what]);
        }
        x.hours(3);
        x.send(3, 0, 0);
        x.send(1, 0, 0);
        x.feed(1, 2, 3, 4, 5);
        x.tell(3, false);
        x.hold(0);
        int[] then = {2, 4, 3, 4, 3, 2, 2, 2, 20, 3, 1, 1, 0, 10, 3};
        for (int what = 0; what < then.length; what++) {
            due("36: count(" + what + ") then", x.count(what), then[what]);
        }
        due("36: count(15)", x.count(15), -1);
        for (int wrong : WRONG) {
            due("36: wrong what", x.count(wrong), -1);
        }
    }
}
