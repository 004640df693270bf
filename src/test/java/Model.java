import java.util.ArrayList;
import java.util.Arrays;
import java.util.HashMap;
import java.util.LinkedHashMap;
import java.util.List;
import java.util.Map;
import java.util.TreeSet;

/** The whole class a second time, plainly and with the library, for runs of random calls. */
final class Model {
    static final class Piece implements Cloneable {
        int sign;
        int letter;
        int x;
        int y;
        int who = -2;
        int lain = 0;

        Piece copy() {
            Piece other = new Piece();
            other.sign = sign;
            other.letter = letter;
            other.x = x;
            other.y = y;
            other.who = who;
            other.lain = lain;
            return other;
        }
    }

    static final class Picker {
        int x;
        int y;
        int hat;
        int goalX = -2;
        int goalY = -2;

        Picker copy() {
            Picker other = new Picker();
            other.x = x;
            other.y = y;
            other.hat = hat;
            other.goalX = goalX;
            other.goalY = goalY;
            return other;
        }
    }

    static final class State {
        int hour = 0;
        List<Piece> pieces = new ArrayList<>();
        List<Picker> pickers = new ArrayList<>();

        State copy() {
            State other = new State();
            other.hour = hour;
            pieces.forEach(piece -> other.pieces.add(piece.copy()));
            pickers.forEach(picker -> other.pickers.add(picker.copy()));
            return other;
        }

        int lyingAt(int x, int y) {
            return (int) pieces.stream().filter(p -> p.who == -2 && p.x == x && p.y == y).count();
        }

        int has(int picker) {
            return (int) pieces.stream().filter(p -> p.who == picker).count();
        }

        int lying() {
            return has(-2);
        }

        int x(Piece piece) {
            return piece.who == -2 ? piece.x : pickers.get(piece.who).x;
        }

        int y(Piece piece) {
            return piece.who == -2 ? piece.y : pickers.get(piece.who).y;
        }
    }

    private StringBuilder tape = new StringBuilder();
    private ModelText text = new ModelText("");
    private int place = -1;
    private State state = new State();
    private final List<State> past = new ArrayList<>();
    private final State[] slots = new State[3];
    private final List<int[]> told = new ArrayList<>();

    private static boolean in(int value, int least, int most) {
        return value >= least && value <= most;
    }

    private static boolean isCell(int x, int y) {
        return in(x, 0, 9) && in(y, 0, 7);
    }

    private boolean isPiece(int piece) {
        return in(piece, 0, state.pieces.size() - 1);
    }

    private boolean isPicker(int picker) {
        return in(picker, 0, state.pickers.size() - 1);
    }

    int feed(int a, int b, int c, int d, int e) {
        if (tape.length() > 1980) {
            return -1;
        }
        for (int four : new int[] {a, b, c, d, e}) {
            for (int i = 3; i >= 0; i--) {
                tape.append((char) (four >> 8 * i & 255));
            }
        }
        return tape.length();
    }

    int back(int n) {
        if (!in(n, 0, tape.length())) {
            return -1;
        }
        tape.setLength(tape.length() - n);
        return tape.length();
    }

    int read() {
        ModelText next = new ModelText(tape.toString());
        tape = new StringBuilder();
        place = next.place;
        if (next.fault != 0) {
            return next.fault;
        }
        text = next;
        state = new State();
        for (int i = 0; i < text.letters.size(); i++) {
            String letter = text.letters.get(i);
            for (int k = 0; k < letter.length(); k++) {
                Piece piece = new Piece();
                piece.sign = letter.charAt(k) - 'a' + 1;
                piece.letter = i;
                piece.x = (text.letterCells.get(i)[0] + k) % 10;
                piece.y = text.letterCells.get(i)[1];
                state.pieces.add(piece);
            }
        }
        for (int[] numbers : text.pickerNumbers) {
            Picker picker = new Picker();
            picker.x = numbers[0];
            picker.y = numbers[1];
            picker.hat = numbers[2];
            state.pickers.add(picker);
        }
        past.clear();
        told.clear();
        Arrays.fill(slots, null);
        return 0;
    }

    int place() {
        return place;
    }

    private int lawOfPiece(String law, State s, int number) {
        Piece piece = s.pieces.get(number);
        Map<String, Integer> vars = new HashMap<>();
        vars.put("sign", piece.sign);
        vars.put("across", piece.x);
        vars.put("down", piece.y);
        vars.put("hour", s.hour);
        vars.put("lain", piece.lain);
        vars.put("here", s.lyingAt(piece.x, piece.y));
        vars.put("which", number);
        return ModelLaw.of(text.laws.get(law), vars);
    }

    private int takes(State s, int number) {
        return s.pieces.get(number).who != -2 ? 0 : Math.max(0, Math.min(99, lawOfPiece("takes", s, number)));
    }

    private int owed(int picker) {
        int sum = 0;
        for (Piece piece : state.pieces) {
            if (piece.who == picker) {
                Map<String, Integer> vars = Map.of("sign", piece.sign, "hat", state.pickers.get(picker).hat,
                        "has", state.has(picker), "which", picker, "hour", state.hour);
                sum += Math.max(0, Math.min(99, ModelLaw.of(text.laws.get("pays"), vars)));
            }
        }
        return sum;
    }

    private boolean rains(int seed, int hour) {
        long h = seed;
        for (long with : new long[] {145, 4L * hour}) {
            h = ((h ^ with) * 1103515245L + 12345L) & 0xffffffffL;
            h = h ^ h >> 15;
        }
        return (h >> 1) % 100 < text.rain;
    }

    private void anHour(State s, Integer seed) {
        for (Picker picker : s.pickers) {
            if (picker.goalX == -2) {
                continue;
            }
            if (picker.x != picker.goalX) {
                picker.x += picker.x < picker.goalX ? 1 : -1;
            } else {
                picker.y += picker.y < picker.goalY ? 1 : -1;
            }
            if (picker.x == picker.goalX && picker.y == picker.goalY) {
                picker.goalX = -2;
                picker.goalY = -2;
            }
        }
        for (int i = 0; i < s.pickers.size(); i++) {
            Picker picker = s.pickers.get(i);
            for (Piece piece : s.pieces) {
                if (piece.who == -2 && piece.x == picker.x && piece.y == picker.y && s.has(i) < picker.hat) {
                    piece.who = i;
                    piece.lain = 0;
                }
            }
        }
        boolean rain = seed != null && rains(seed, s.hour);
        List<Piece> blown = new ArrayList<>();
        for (int i = 0; i < s.pieces.size() && !rain; i++) {
            if (s.pieces.get(i).who == -2 && lawOfPiece("blows", s, i) > 0) {
                blown.add(s.pieces.get(i));
            }
        }
        for (Piece piece : s.pieces) {
            if (blown.contains(piece)) {
                piece.x = Math.max(0, Math.min(9, piece.x + text.windX));
                piece.y = Math.max(0, Math.min(7, piece.y + text.windY));
                piece.lain = 0;
            } else if (piece.who == -2 && piece.lain < 999) {
                piece.lain++;
            }
        }
        s.hour++;
    }

    private State in(int n, Integer seed) {
        State s = state.copy();
        for (int i = 0; i < n; i++) {
            anHour(s, seed);
        }
        return s;
    }

    private void done() {
        past.add(state.copy());
        if (past.size() > 40) {
            past.remove(0);
        }
    }

    int piece(int number, int what) {
        if (!isPiece(number)) {
            return -1;
        }
        Piece piece = state.pieces.get(number);
        boolean lies = piece.who == -2;
        return switch (what) {
            case 0 -> piece.sign;
            case 1 -> piece.letter;
            case 2 -> state.x(piece);
            case 3 -> state.y(piece);
            case 4 -> piece.who;
            case 5 -> lies ? piece.lain : 0;
            case 6 -> lies && lawOfPiece("blows", state, number) > 0 ? 1 : 0;
            case 7 -> takes(state, number);
            default -> -1;
        };
    }

    int picker(int number, int what) {
        if (!isPicker(number)) {
            return -1;
        }
        Picker picker = state.pickers.get(number);
        return switch (what) {
            case 0 -> picker.x;
            case 1 -> picker.y;
            case 2 -> picker.hat;
            case 3 -> state.has(number);
            case 4 -> picker.goalX;
            case 5 -> picker.goalY;
            case 6 -> owed(number);
            default -> -1;
        };
    }

    int lies(int x, int y) {
        return isCell(x, y) ? state.lyingAt(x, y) : -1;
    }

    boolean send(int number, int x, int y) {
        if (!isPicker(number) || !isCell(x, y) && x != -1) {
            return false;
        }
        Picker picker = state.pickers.get(number);
        boolean none = x == -1 || x == picker.x && y == picker.y;
        int goalX = none ? -2 : x;
        int goalY = none ? -2 : y;
        if (goalX == picker.goalX && goalY == picker.goalY) {
            return false;
        }
        done();
        picker.goalX = goalX;
        picker.goalY = goalY;
        return true;
    }

    boolean drop(int number) {
        if (!isPiece(number) || state.pieces.get(number).who == -2) {
            return false;
        }
        done();
        Piece piece = state.pieces.get(number);
        piece.x = state.x(piece);
        piece.y = state.pickers.get(piece.who).y;
        piece.who = -2;
        piece.lain = 0;
        return true;
    }

    int give(int picker, int other) {
        if (!isPicker(picker) || !isPicker(other) || picker == other) {
            return -1;
        }
        done();
        int given = 0;
        for (Piece piece : state.pieces) {
            if (piece.who == picker && state.has(other) < state.pickers.get(other).hat) {
                piece.who = other;
                given++;
            }
        }
        return given;
    }

    int hours(int n) {
        if (!in(n, 0, 40)) {
            return -1;
        }
        if (n > 0) {
            done();
            state = in(n, text.seed);
        }
        return state.hour;
    }

    boolean undo() {
        if (past.isEmpty()) {
            return false;
        }
        state = past.remove(past.size() - 1);
        return true;
    }

    int steps(int picker, int x, int y) {
        return isPicker(picker) && isCell(x, y) ? apart(cellOf(picker), 10 * y + x) : -1;
    }

    private int cellOf(int picker) {
        return 10 * state.pickers.get(picker).y + state.pickers.get(picker).x;
    }

    private static int apart(int a, int b) {
        return Math.abs(a % 10 - b % 10) + Math.abs(a / 10 - b / 10);
    }

    private TreeSet<Integer> cells() {
        TreeSet<Integer> cells = new TreeSet<>();
        state.pieces.stream().filter(p -> p.who == -2).forEach(p -> cells.add(10 * p.y + p.x));
        return cells;
    }

    private static int tour(int at, TreeSet<Integer> cells, Map<String, Integer> known) {
        if (cells.isEmpty()) {
            return 0;
        }
        String key = at + " " + cells;
        Integer old = known.get(key);
        if (old != null) {
            return old;
        }
        int best = Integer.MAX_VALUE;
        for (int cell : new ArrayList<>(cells)) {
            TreeSet<Integer> rest = new TreeSet<>(cells);
            rest.remove(cell);
            best = Math.min(best, apart(at, cell) + tour(cell, rest, known));
        }
        known.put(key, best);
        return best;
    }

    int round(int picker, int what) {
        if (!isPicker(picker) || !in(what, 0, 1)) {
            return -1;
        }
        TreeSet<Integer> cells = cells();
        cells.remove(cellOf(picker));
        if (cells.size() > 10) {
            return -3;
        }
        Map<String, Integer> known = new HashMap<>();
        int best = tour(cellOf(picker), cells, known);
        if (what == 0) {
            return best;
        }
        for (int cell : cells) {
            TreeSet<Integer> rest = new TreeSet<>(cells);
            rest.remove(cell);
            if (apart(cellOf(picker), cell) + tour(cell, rest, known) == best) {
                return cell;
            }
        }
        return -2;
    }

    int share(int picker, int other) {
        if (!isPicker(picker) || !isPicker(other) || picker == other) {
            return -1;
        }
        List<Integer> cells = new ArrayList<>(cells());
        if (cells.size() > 10) {
            return -3;
        }
        Map<String, Integer> known = new HashMap<>();
        int best = Integer.MAX_VALUE;
        for (int set = 0; set < 1 << cells.size(); set++) {
            TreeSet<Integer> mine = new TreeSet<>();
            TreeSet<Integer> his = new TreeSet<>();
            for (int i = 0; i < cells.size(); i++) {
                ((set >> i & 1) == 1 ? mine : his).add(cells.get(i));
            }
            best = Math.min(best, Math.max(tour(cellOf(picker), mine, known), tour(cellOf(other), his, known)));
        }
        return best;
    }

    int closest(int x, int y) {
        if (!isCell(x, y)) {
            return -1;
        }
        int best = -2;
        for (int i = state.pickers.size() - 1; i >= 0; i--) {
            if (best == -2 || steps(i, x, y) <= steps(best, x, y)) {
                best = i;
            }
        }
        return best;
    }

    int richest(int what) {
        if (!in(what, 0, 1)) {
            return -1;
        }
        Map<Integer, Integer> counts = new LinkedHashMap<>();
        cells().forEach(cell -> counts.put(cell, state.lyingAt(cell % 10, cell / 10)));
        int most = counts.values().stream().mapToInt(v -> v).max().orElse(-2);
        return what == 1 || most == -2 ? most : counts.keySet().stream().filter(cell -> counts.get(cell) == most).findFirst().get();
    }

    private boolean isHeap(int heap) {
        return isPicker(heap) || in(heap, 4, 5);
    }

    private List<Integer> heap(int heap) {
        List<Integer> signs = new ArrayList<>();
        for (Piece piece : state.pieces) {
            if (heap == 5 || heap == 4 && piece.who == -2 || piece.who == heap) {
                signs.add(piece.sign);
            }
        }
        return signs;
    }

    private static int lacking(List<Integer> signs, String word) {
        List<Integer> rest = new ArrayList<>(signs);
        int lacking = 0;
        for (char c : word.toCharArray()) {
            if (!rest.remove((Integer) (c - 'a' + 1))) {
                lacking++;
            }
        }
        return lacking;
    }

    int made(int heap) {
        if (!isHeap(heap)) {
            return -1;
        }
        int bits = 0;
        for (int i = 0; i < text.words.size(); i++) {
            bits += lacking(heap(heap), text.words.get(i)) == 0 ? 1 << i : 0;
        }
        return bits;
    }

    int together(int what) {
        if (!in(what, 0, 1)) {
            return -1;
        }
        int best = 0;
        for (int set = (1 << text.words.size()) - 1; set >= 0; set--) {
            StringBuilder all = new StringBuilder();
            for (int i = 0; i < text.words.size(); i++) {
                all.append((set >> i & 1) == 1 ? text.words.get(i) : "");
            }
            if (lacking(heap(5), all.toString()) == 0 && Integer.bitCount(set) >= Integer.bitCount(best)) {
                best = set;
            }
        }
        return what == 0 ? Integer.bitCount(best) : best;
    }

    int missing(int word, int heap) {
        return in(word, 0, text.words.size() - 1) && isHeap(heap) ? lacking(heap(heap), text.words.get(word)) : -1;
    }

    int longest(int heap) {
        if (!isHeap(heap)) {
            return -1;
        }
        int best = -2;
        for (int i = text.words.size() - 1; i >= 0; i--) {
            if ((made(heap) >> i & 1) == 1 && (best == -2 || text.words.get(i).length() >= text.words.get(best).length())) {
                best = i;
            }
        }
        return best;
    }

    int whole() {
        int bits = 0;
        for (int i = 0; i < text.letters.size(); i++) {
            int letter = i;
            bits += state.pieces.stream().anyMatch(p -> p.letter == letter && p.who == -2) ? 0 : 1 << i;
        }
        return bits;
    }

    private int loss(State s) {
        int sum = 0;
        for (int i = 0; i < s.pieces.size(); i++) {
            sum += takes(s, i);
        }
        return sum;
    }

    int loss(int n) {
        return in(n, 0, 40) ? loss(in(n, null)) : -1;
    }

    int stand(int picker, int n, int what) {
        if (!isPicker(picker) || !in(n, 1, 12) || !in(what, 0, 1)) {
            return -1;
        }
        State now = state;
        int best = -1;
        int least = Integer.MAX_VALUE;
        for (int cell = 0; cell < 80; cell++) {
            state = now.copy();
            Picker one = state.pickers.get(picker);
            boolean own = cell == cellOf(picker);
            one.goalX = own ? -2 : cell % 10;
            one.goalY = own ? -2 : cell / 10;
            int loss = loss(n);
            if (loss < least) {
                least = loss;
                best = cell;
            }
        }
        state = now;
        return what == 0 ? best : least;
    }

    int late() {
        State s = state.copy();
        for (int n = 0; n <= 100; n++) {
            if (s.lying() == 0) {
                return n;
            }
            anHour(s, null);
        }
        return -2;
    }

    int pieceIn(int piece, int n, int what) {
        if (!isPiece(piece) || !in(n, 0, 40) || !in(what, 0, 2)) {
            return -1;
        }
        State s = in(n, text.seed);
        Piece one = s.pieces.get(piece);
        return what == 0 ? s.x(one) : what == 1 ? s.y(one) : one.who;
    }

    int pickerIn(int picker, int n, int what) {
        if (!isPicker(picker) || !in(n, 0, 40) || !in(what, 0, 2)) {
            return -1;
        }
        State s = in(n, text.seed);
        return what == 0 ? s.pickers.get(picker).x : what == 1 ? s.pickers.get(picker).y : s.has(picker);
    }

    int year(int n, int s) {
        if (!in(n, 0, 40) || !in(s, 1, 20)) {
            return -1;
        }
        int clean = 0;
        for (int i = 0; i < s; i++) {
            clean += in(n, text.seed + i).lying() == 0 ? 1 : 0;
        }
        return clean;
    }

    int tell(int sign, boolean has) {
        if (!in(sign, 1, 26) || told.size() == 20) {
            return -1;
        }
        told.add(new int[] {sign, has ? 1 : 0});
        return told.size() - 1;
    }

    int forget() {
        int were = told.size();
        told.clear();
        return were;
    }

    private static boolean has(String word, int sign) {
        return word.indexOf('a' + sign - 1) >= 0;
    }

    private List<String> left(int k) {
        List<String> left = new ArrayList<>(text.words);
        for (int[] one : told.subList(0, k)) {
            left.removeIf(word -> has(word, one[0]) != (one[1] == 1));
        }
        return left;
    }

    int written(int k, int what) {
        if (!in(k, 0, told.size()) || !in(what, 0, 1)) {
            return -1;
        }
        List<String> left = left(k);
        return what == 0 ? left.size() : left.stream().mapToInt(word -> 1 << text.words.indexOf(word)).sum();
    }

    int ask(int k) {
        if (!in(k, 0, told.size())) {
            return -1;
        }
        List<String> left = left(k);
        if (left.isEmpty()) {
            return -2;
        }
        int best = 26;
        for (int sign = 26; sign >= 1; sign--) {
            if (worst(left, sign) <= worst(left, best)) {
                best = sign;
            }
        }
        return best;
    }

    private static int worst(List<String> left, int sign) {
        int with = (int) left.stream().filter(word -> has(word, sign)).count();
        return Math.max(with, left.size() - with);
    }

    boolean hold(int slot) {
        if (!in(slot, 0, 2)) {
            return false;
        }
        slots[slot] = state.copy();
        return true;
    }

    boolean restore(int slot) {
        if (!in(slot, 0, 2) || slots[slot] == null) {
            return false;
        }
        state = slots[slot].copy();
        past.clear();
        return true;
    }

    int count(int what) {
        int n = state.pickers.size();
        int sum = 0;
        switch (what) {
            case 0: return text.letters.size();
            case 1: return state.pieces.size();
            case 2: return text.words.size();
            case 3: return n;
            case 4: return state.hour;
            case 5: return state.lying();
            case 6: return cells().size();
            case 7:
                for (int i = 0; i < n; i++) {
                    sum += owed(i);
                }
                return sum;
            case 8: return tape.length();
            case 9: return past.size();
            case 10: return told.size();
            case 11: return (int) Arrays.stream(slots).filter(slot -> slot != null).count();
            case 12: return rains(text.seed, state.hour) ? 1 : 0;
            case 13:
                for (int i = 0; i < n; i++) {
                    sum += state.pickers.get(i).goalX == -2 ? 0 : 1 << i;
                }
                return sum;
            case 14:
                for (int i = 0; i < n; i++) {
                    sum += state.has(i) == state.pickers.get(i).hat ? 1 << i : 0;
                }
                return sum;
            default: return -1;
        }
    }
}
