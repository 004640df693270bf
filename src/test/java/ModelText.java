import java.util.ArrayList;
import java.util.HashMap;
import java.util.LinkedHashSet;
import java.util.List;
import java.util.Map;
import java.util.Set;
import java.util.regex.Matcher;
import java.util.regex.Pattern;

/** A text as the document tells it, read by the grammar itself: a second opinion for the tests. */
final class ModelText {
    record Token(String text, int place, boolean good) {
        boolean isName() {
            return good && text.matches("[a-z]+") && !QUOTED.contains(text);
        }

        boolean isInt() {
            return good && text.matches("[0-9]+");
        }

        boolean fits(String symbol) {
            return switch (symbol) {
                case "NAME" -> isName();
                case "INT" -> isInt();
                default -> good && text.equals(symbol);
            };
        }
    }

    record Item(String left, List<String> right, int dot, int from) {
        String next() {
            return dot < right.size() ? right.get(dot) : null;
        }

        Item moved() {
            return new Item(left, right, dot + 1, from);
        }
    }

    static final Set<String> QUOTED = Set.of("letter", "word", "picker", "blows", "takes", "pays", "wind", "rain", "seed",
            "if", "then", "else", "sign", "across", "down", "hour", "lain", "hat", "has", "here", "which");
    private static final String[] GRAMMAR = {
        "text:", "text: text TELL",
        "TELL: letter NAME INT INT ;", "TELL: word NAME ;", "TELL: picker NAME INT INT INT ;", "TELL: blows LAW ;",
        "TELL: takes LAW ;", "TELL: pays LAW ;", "TELL: wind STEP STEP ;", "TELL: rain INT ;", "TELL: seed INT ;",
        "STEP: INT", "STEP: - INT", "LAW: = IFS E", "IFS:", "IFS: IFS if E < E then E else",
        "E: PART", "E: E + PART", "E: E - PART", "PART: UNIT", "PART: PART * UNIT", "PART: PART / UNIT",
        "UNIT: INT", "UNIT: ( E )", "UNIT: sign", "UNIT: across", "UNIT: down", "UNIT: hour", "UNIT: lain", "UNIT: hat",
        "UNIT: has", "UNIT: here", "UNIT: which"};
    private static final Map<String, List<List<String>>> RULES = rules();

    int fault = 0;
    int place = -1;
    final List<String> letters = new ArrayList<>();
    final List<int[]> letterCells = new ArrayList<>();
    final List<String> words = new ArrayList<>();
    final List<String> pickers = new ArrayList<>();
    final List<int[]> pickerNumbers = new ArrayList<>();
    final Map<String, List<String>> laws = new HashMap<>();
    int windX = 1;
    int windY = 0;
    int rain = 0;
    int seed = 0;

    ModelText(String text) {
        laws.put("blows", List.of("0"));
        laws.put("takes", List.of("1"));
        laws.put("pays", List.of("1"));
        List<Token> tokens = split(text);
        found(1, syntaxPlace(tokens, text.length()));
        found(2, roomPlace(tokens));
        if (fault == 0) {
            takeIn(tokens);
        }
    }

    private static Map<String, List<List<String>>> rules() {
        Map<String, List<List<String>>> rules = new HashMap<>();
        for (String line : GRAMMAR) {
            String[] sides = line.split(":");
            List<String> right = sides.length < 2 ? List.of() : List.of(sides[1].trim().split(" "));
            rules.computeIfAbsent(sides[0], key -> new ArrayList<>()).add(right);
        }
        return rules;
    }

    private void found(int number, int at) {
        if (at >= 0 && (fault == 0 || at < place)) {
            fault = number;
            place = at;
        }
    }

    private static List<Token> split(String text) {
        List<Token> tokens = new ArrayList<>();
        Matcher matcher = Pattern.compile("[\\t\\n\\r ]+|[a-z]+|[0-9]+|[;=+\\-*/<()]|.", Pattern.DOTALL).matcher(text);
        while (matcher.find()) {
            String part = matcher.group();
            if (!part.matches("[\\t\\n\\r ]+")) {
                tokens.add(new Token(part, matcher.start(), part.matches("[a-z]{1,8}|[0-9]{1,4}|[;=+\\-*/<()]")));
            }
        }
        return tokens;
    }

    /** By Earley's sets: the first TOKEN behind which no set of beginnings is left. */
    private static int syntaxPlace(List<Token> tokens, int length) {
        List<Set<Item>> sets = new ArrayList<>();
        Set<Item> now = new LinkedHashSet<>();
        RULES.get("text").forEach(right -> now.add(new Item("text", right, 0, 0)));
        sets.add(closed(now, sets, 0));
        for (int i = 0; i < tokens.size(); i++) {
            Set<Item> next = new LinkedHashSet<>();
            for (Item item : sets.get(i)) {
                if (item.next() != null && !RULES.containsKey(item.next()) && tokens.get(i).fits(item.next())) {
                    next.add(item.moved());
                }
            }
            if (next.isEmpty()) {
                return tokens.get(i).place;
            }
            sets.add(null);
            sets.set(i + 1, closed(next, sets, i + 1));
        }
        boolean whole = sets.get(tokens.size()).stream().anyMatch(item -> item.left.equals("text") && item.next() == null && item.from == 0);
        return whole ? -1 : length;
    }

    private static Set<Item> closed(Set<Item> start, List<Set<Item>> sets, int at) {
        List<Item> todo = new ArrayList<>(start);
        Set<Item> all = new LinkedHashSet<>(start);
        for (int i = 0; i < todo.size(); i++) {
            Item item = todo.get(i);
            List<Item> more = new ArrayList<>();
            if (item.next() == null) {
                Set<Item> origin = item.from == at ? new LinkedHashSet<>(all) : sets.get(item.from);
                origin.stream().filter(other -> item.left.equals(other.next())).forEach(other -> more.add(other.moved()));
            } else if (RULES.containsKey(item.next())) {
                for (List<String> right : RULES.get(item.next())) {
                    more.add(new Item(item.next(), right, 0, at));
                    if (right.isEmpty()) {
                        more.add(item.moved());
                    }
                }
            }
            for (Item one : more) {
                if (all.add(one)) {
                    todo.add(one);
                }
            }
        }
        return all;
    }

    private static int roomPlace(List<Token> tokens) {
        Map<String, Integer> most = Map.of("letter", 4, "word", 8, "picker", 4, "if", 4);
        Map<String, Integer> seen = new HashMap<>();
        int open = 0;
        for (int i = 0; i < tokens.size(); i++) {
            String text = tokens.get(i).text;
            if (text.equals("=")) {
                seen.put("if", 0);
                open = 0;
            }
            open += text.equals("(") ? 1 : text.equals(")") ? -1 : 0;
            seen.merge(text, 1, Integer::sum);
            if (i == 400 || open > 6 || most.containsKey(text) && seen.get(text) > most.get(text)) {
                return tokens.get(i).place;
            }
        }
        return -1;
    }

    private void takeIn(List<Token> tokens) {
        int i = 0;
        while (i < tokens.size()) {
            int end = i;
            while (!tokens.get(end).text.equals(";")) {
                end++;
            }
            tell(tokens.subList(i, end));
            i = end + 1;
        }
    }

    private void tell(List<Token> tokens) {
        String sort = tokens.get(0).text;
        switch (sort) {
            case "letter" -> {
                name(letters, tokens.get(1));
                letterCells.add(new int[] {number(tokens.get(2), 0, 9), number(tokens.get(3), 0, 7)});
            }
            case "word" -> name(words, tokens.get(1));
            case "picker" -> {
                name(pickers, tokens.get(1));
                pickerNumbers.add(new int[] {number(tokens.get(2), 0, 9), number(tokens.get(3), 0, 7), number(tokens.get(4), 1, 32)});
            }
            case "wind" -> {
                int second = tokens.get(1).text.equals("-") ? 3 : 2;
                windX = step(tokens.subList(1, second));
                windY = step(tokens.subList(second, tokens.size()));
            }
            case "rain" -> rain = number(tokens.get(1), 0, 100);
            case "seed" -> seed = number(tokens.get(1), 0, 9999);
            default -> laws.put(sort, tokens.stream().skip(2).map(Token::text).toList());
        }
    }

    private void name(List<String> names, Token token) {
        if (names.contains(token.text)) {
            found(3, token.place);
        }
        names.add(token.text);
    }

    private int number(Token token, int least, int most) {
        int number = Integer.parseInt(token.text);
        if (number < least || number > most) {
            found(5, token.place);
        }
        return number;
    }

    private int step(List<Token> tokens) {
        int number = number(tokens.get(tokens.size() - 1), 0, 2);
        return tokens.size() == 2 ? -number : number;
    }
}
