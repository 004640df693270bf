import java.util.List;
import java.util.Map;

/** A LAW looked at word by word. */
final class ModelLaw {
    private final List<String> words;
    private final Map<String, Integer> vars;
    private int at = 0;
    private boolean byZero = false;

    private ModelLaw(List<String> words, Map<String, Integer> vars) {
        this.words = words;
        this.vars = vars;
    }

    static int of(List<String> words, Map<String, Integer> vars) {
        return new ModelLaw(words, vars).value();
    }

    private int value() {
        while (words.get(at).equals("if")) {
            at++;
            int left = sum();
            at++;
            int right = sum();
            at++;
            if (byZero) {
                return 0;
            }
            if (left < right) {
                int value = sum();
                return byZero ? 0 : value;
            }
            while (!words.get(at).equals("else")) {
                at++;
            }
            at++;
        }
        int value = sum();
        return byZero ? 0 : value;
    }

    private boolean isNext(String a, String b) {
        return at < words.size() && (words.get(at).equals(a) || words.get(at).equals(b));
    }

    private int sum() {
        int value = product();
        while (isNext("+", "-")) {
            boolean plus = words.get(at++).equals("+");
            int right = product();
            value = plus ? value + right : value - right;
        }
        return value;
    }

    private int product() {
        int value = unit();
        while (isNext("*", "/")) {
            boolean times = words.get(at++).equals("*");
            int right = unit();
            if (!times && right == 0) {
                byZero = true;
                right = 1;
            }
            value = times ? value * right : value / right;
        }
        return value;
    }

    private int unit() {
        String word = words.get(at++);
        if (word.equals("(")) {
            int value = sum();
            at++;
            return value;
        }
        return Character.isDigit(word.charAt(0)) ? Integer.parseInt(word) : vars.getOrDefault(word, 0);
    }
}
