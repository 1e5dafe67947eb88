import java.util.ArrayList;
import java.util.List;
import java.util.Random;
import java.util.regex.Matcher;
import java.util.regex.Pattern;

/** Promises 3 to 5: texts of lands by chance, spoilt by chance, each FAULT set beside the model's. */
public final class TextModelTest {
    private static final String[] WORDS = {"land", "years", "water", "stone", "house", "skin", "heir", "wall", "older", "coin", "smell",
        "wide", "high", "doors", "near", "far", "share", "yes", "no", "births", "fire", "earns", "hard", "soft", "wood", "costs", "warm",
        "rots", "strong", "at", "of", "family", "gold", "north", "east", "south", "west", "lock", "a", "b", "c", "d", "s", "shard",
        "ssoft", "swood", "ha", "hb", "wa", "wb", "wc", "x", "abcdefgh", "abcdefghi", ";", ",", ",", ";", "0", "1", "2", "3", "5", "9",
        "10", "12", "13", "99", "100", "900", "901", "999", "0000", "007", "", " ", "A", "-", "\n", "" + (char) 0, "" + (char) 200};

    private static final int[] seen = new int[8];

    public static void main(String[] args) {
        for (long number = 0; number < 60000; number++) {
            Random random = new Random(number);
            String text = new Lands(number % 500).text.toString();
            for (int i = random.nextInt(3); i >= 0; i--) {
                text = spoil(text, random);
            }
            if (text.length() <= 1000) {
                compare(text);
            }
        }
        for (int fault = 0; fault < seen.length; fault++) {
            Check.due("fault " + fault + " was met", seen[fault] > 50, true);
        }
        Check.end();
    }

    private static void compare(String text) {
        TextModel model = new TextModel(text);
        seen[model.fault]++;
        YearSkins x = new YearSkins();
        int got = Check.tell(x, text);
        Check.due("refused: " + text, got == -1, model.fault != 0);
        Check.due("fault of " + text, x.fault(), model.fault);
        Check.due("where of " + text, x.where(), model.fault == 0 ? -1 : model.place);
    }

    private static String spoil(String text, Random random) {
        List<String> tokens = new ArrayList<>();
        Matcher matcher = Pattern.compile("[a-z]+|[0-9]+|[^a-z0-9]").matcher(text);
        while (matcher.find()) {
            tokens.add(matcher.group());
        }
        if (tokens.isEmpty()) {
            return text;
        }
        int at = random.nextInt(tokens.size());
        switch (random.nextInt(10)) {
            case 0:
                tokens.remove(at);
                break;
            case 1:
                tokens.add(at, " " + WORDS[random.nextInt(WORDS.length)] + " ");
                break;
            case 2:
                tokens.set(at, WORDS[random.nextInt(WORDS.length)]);
                break;
            case 3:
                return text.substring(0, random.nextInt(text.length() + 1));
            case 4:
                tokens.set(at, tokens.get(random.nextInt(tokens.size())));
                break;
            case 5:
                int sign = random.nextInt(text.length());
                return text.substring(0, sign) + (char) ('a' + random.nextInt(26)) + text.substring(sign + 1);
            case 6:
            case 7:
                int whole = nextWhole(tokens, at);
                tokens.set(whole, Integer.toString(random.nextInt(13)));
                break;
            default:
                return mixLines(text, random);
        }
        return String.join("", tokens);
    }

    /** Where the next WHOLE stands from there on, round the text; there itself if there is none. */
    private static int nextWhole(List<String> tokens, int at) {
        for (int i = 0; i < tokens.size(); i++) {
            int place = (at + i) % tokens.size();
            if (tokens.get(place).matches("[0-9]+")) {
                return place;
            }
        }
        return at;
    }

    /** A LINE again, gone, or elsewhere. */
    private static String mixLines(String text, Random random) {
        List<String> lines = new ArrayList<>(List.of(text.split(";")));
        String line = lines.get(random.nextInt(lines.size()));
        if (random.nextInt(3) > 0) {
            lines.remove(line);
        }
        if (random.nextInt(3) > 0) {
            lines.add(random.nextInt(lines.size() + 1), line);
        }
        if (random.nextInt(4) == 0) {
            lines.add(random.nextBoolean() ? "wall z" : "water " + random.nextInt(12) + "," + random.nextInt(12));
        }
        return String.join(";", lines);
    }
}
