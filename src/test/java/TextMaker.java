import java.util.LinkedHashSet;
import java.util.Random;
import java.util.Set;

/** Random texts without a FAULT, and texts spoilt at some places. */
final class TextMaker {
    private static final String[] VARS = {"sign", "across", "down", "hour", "lain", "hat", "has", "here", "which"};
    private static final String[] PARTS = {"letter", "word", "picker", "blows", "takes", "pays", "wind", "rain", "seed", "if", "then",
        "else", "sign", "here", "abc", "abcdefghi", "0", "1", "9", "33", "101", "12345", ";", "=", "+", "-", "*", "/", "<", "(", ")", "?",
        "A", "\u00ff", " ", "((((((("};
    private final Random random;

    TextMaker(Random random) {
        this.random = random;
    }

    private String name(int most) {
        StringBuilder name = new StringBuilder();
        int length = 1 + random.nextInt(most);
        int signs = random.nextInt(4) == 0 ? 26 : 5;
        for (int i = 0; i < length; i++) {
            name.append((char) ('a' + random.nextInt(signs)));
        }
        return ModelText.QUOTED.contains(name.toString()) ? "a" + name : name.toString();
    }

    private Set<String> names(int most, int longest) {
        Set<String> names = new LinkedHashSet<>();
        int count = random.nextInt(most + 1);
        while (names.size() < count) {
            names.add(name(longest));
        }
        return names;
    }

    private String unit(int deep) {
        int kind = random.nextInt(8);
        if (kind == 0 && deep < 4) {
            return "(" + sum(deep + 1) + ")";
        }
        if (kind < 4) {
            return String.valueOf(random.nextInt(10) == 0 ? random.nextInt(10000) : random.nextInt(8));
        }
        return VARS[random.nextInt(VARS.length)];
    }

    private String sum(int deep) {
        StringBuilder sum = new StringBuilder(unit(deep));
        while (random.nextInt(5) < 2) {
            sum.append(" ").append("+-*/".charAt(random.nextInt(4))).append(random.nextBoolean() ? " " : "").append(unit(deep));
        }
        return sum.toString();
    }

    private String law() {
        StringBuilder law = new StringBuilder("= ");
        int ifs = random.nextInt(3) == 0 ? 1 + random.nextInt(4) : 0;
        for (int i = 0; i < ifs; i++) {
            law.append("if ").append(sum(0)).append(" < ").append(sum(0)).append(" then ").append(sum(0)).append(" else ");
        }
        return law.append(sum(0)).append(";").toString();
    }

    private String blows() {
        String[] known = {"= 0;", "= 1;", "= lain - 2;", "= 2 - here;", "= if sign < 4 then hour - hour / 2 * 2 else 0;", "= lain - which / 3;"};
        return random.nextInt(3) == 0 ? law() : known[random.nextInt(known.length)];
    }

    String text() {
        StringBuilder text = new StringBuilder();
        int width = random.nextBoolean() ? 3 : 10;
        for (String name : names(4, random.nextBoolean() ? 3 : 8)) {
            text.append("letter ").append(name).append(" ").append(random.nextInt(width)).append(" ").append(random.nextInt(8)).append(";\n");
        }
        for (String name : names(8, 4)) {
            text.append("word ").append(name).append(";");
        }
        for (String name : names(4, 8)) {
            int hat = random.nextBoolean() ? 1 + random.nextInt(3) : 1 + random.nextInt(32);
            text.append(" picker ").append(name).append(" ").append(random.nextInt(10)).append(" ").append(random.nextInt(8)).append(" ");
            text.append(hat).append(";");
        }
        text.append("blows").append(blows()).append(" takes").append(law()).append(" pays").append(law());
        if (random.nextBoolean()) {
            text.append("wind ").append(random.nextInt(5) - 2).append(" ").append(random.nextInt(5) - 2).append(";");
        }
        if (random.nextBoolean()) {
            text.append("rain ").append(random.nextInt(101)).append(";");
        }
        if (random.nextBoolean()) {
            text.append("seed ").append(random.nextInt(10000)).append(";");
        }
        return text.length() > 2000 ? text() : text.toString();
    }

    /** About as many TOKENS as there may be, of few sorts, with numbers and names that may be wrong. */
    String longText() {
        StringBuilder text = new StringBuilder();
        int tells = random.nextInt(140);
        for (int i = 0; i < tells && text.length() < 1800; i++) {
            switch (random.nextInt(tells > 60 ? 5 : 8)) {
                case 0 -> text.append("seed 1;");
                case 1 -> text.append("wind 0-").append(random.nextInt(40) / 15).append(";");
                case 2 -> text.append("rain ").append(random.nextInt(102)).append(";");
                case 3 -> text.append("pays").append(law());
                case 4 -> text.append("rain 0;");
                case 5 -> text.append("word ").append(name(3)).append(";");
                case 6 -> text.append("letter ").append(name(2)).append(" 1 ").append(random.nextInt(20) / 2).append(";");
                default -> text.append("picker ").append(name(2)).append(" 1 1 ").append(random.nextInt(34)).append(";");
            }
        }
        return text.length() > 2000 ? longText() : text.toString();
    }

    private void repeatTell(StringBuilder text) {
        String[] tells = text.toString().split(";");
        text.append(tells.length == 0 ? "" : tells[random.nextInt(tells.length)] + ";");
    }

    private static void enlargeInt(StringBuilder text, int from) {
        for (int i = from; i < text.length(); i++) {
            if (Character.isDigit(text.charAt(i))) {
                text.insert(i, "3");
                return;
            }
        }
    }

    String spoilt(String text) {
        StringBuilder spoilt = new StringBuilder(text);
        int times = 1 + random.nextInt(2);
        for (int i = 0; i < times && spoilt.length() > 0; i++) {
            int at = random.nextInt(spoilt.length() + 1);
            switch (random.nextInt(10)) {
                case 5, 6 -> repeatTell(spoilt);
                case 7, 8, 9 -> enlargeInt(spoilt, at);
                case 0 -> spoilt.setLength(at);
                case 1 -> spoilt.insert(at, PARTS[random.nextInt(PARTS.length)]);
                case 2 -> spoilt.insert(at, " " + PARTS[random.nextInt(PARTS.length)] + " ");
                case 3 -> spoilt.delete(at, Math.min(spoilt.length(), at + 1 + random.nextInt(4)));
                default -> {
                    int end = Math.min(spoilt.length(), at + random.nextInt(120));
                    spoilt.insert(random.nextInt(spoilt.length() + 1), spoilt.substring(at, end));
                }
            }
        }
        return spoilt.length() > 2000 ? spoilt.substring(0, 2000) : spoilt.toString();
    }
}
