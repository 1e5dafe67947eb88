import java.util.ArrayList;
import java.util.HashMap;
import java.util.HashSet;
import java.util.List;
import java.util.Map;
import java.util.Set;
import java.util.regex.Matcher;
import java.util.regex.Pattern;

/** Finds the FAULT of a text by patterns of LINES; all FAULTS of one TOKEN are looked for, the least is told. */
final class TextModel {
    private static final Map<String, String> LINES = new HashMap<>();

    static {
        LINES.put("land", "wide #wide high #high doors near|far share yes|no");
        LINES.put("years", "#900 births #100 fire #100 earns #9");
        LINES.put("water", "#x , #waterY");
        LINES.put("stone", "!stone hard|soft|wood costs #1-9 warm #9 rots #9 strong #1-99");
        LINES.put("house", "!house at #x , #coreY of ?stone family #99 gold #999");
        LINES.put("skin", "?house ?stone north|east|south|west #place lock #99");
        LINES.put("heir", "!heir ?house #room");
        LINES.put("wall", "!wall");
        LINES.put("older", "?wall ?wall");
        LINES.put("coin", "?wall #999");
        LINES.put("smell", "?wall #999");
    }

    private final String text;
    private final List<String> tokens = new ArrayList<>();
    private final List<Integer> places = new ArrayList<>();
    private final Map<String, String> sortOf = new HashMap<>();
    private final Map<String, Model.House> houseOf = new HashMap<>();
    private final Map<String, Integer> lines = new HashMap<>();
    private final Set<String> pairs = new HashSet<>();
    private final Set<String> signs = new HashSet<>();
    private final Model model = new Model();
    /** The LINE that is being read: its first WORD, then its TOKENS. */
    private List<String> line = new ArrayList<>();
    int fault;
    int place;

    TextModel(String text) {
        this.text = text;
        Matcher matcher = Pattern.compile("[a-z]+|[0-9]+|[^ ]").matcher(text);
        while (matcher.find()) {
            tokens.add(matcher.group());
            places.add(matcher.start());
        }
        read();
    }

    private void read() {
        String[] pattern = null;
        int at = 0;
        for (int i = 0; i <= tokens.size(); i++) {
            String token = i < tokens.size() ? tokens.get(i) : "";
            place = i < tokens.size() ? places.get(i) : text.length();
            if (pattern != null && at == pattern.length) {
                endLine();
                if (token.isEmpty()) {
                    fault = !lines.containsKey("years") || !lines.containsKey("stone") || !lines.containsKey("house") ? 6 : 0;
                    return;
                }
                fault = token.equals(";") ? 0 : 1;
                pattern = null;
            } else if (pattern == null) {
                fault = faultOfFirst(token);
                pattern = fault == 0 ? LINES.get(token).split(" ") : null;
                at = 0;
                line = new ArrayList<>(List.of(token));
            } else {
                fault = faultOf(token, pattern[at++]);
                line.add(token);
            }
            if (fault != 0) {
                return;
            }
        }
    }

    private int count(String sort) {
        return lines.getOrDefault(sort, 0);
    }

    private int faultOfFirst(String token) {
        if (!LINES.containsKey(token)) {
            return 1;
        }
        boolean again = (token.equals("land") || token.equals("years")) && count(token) > 0;
        int[] most = {10, 4, 4, 6, 6, 8};
        String[] sorts = {"water", "stone", "house", "heir", "wall", "older"};
        boolean many = false;
        for (int i = 0; i < sorts.length; i++) {
            many |= token.equals(sorts[i]) && count(token) == most[i];
        }
        boolean lacks = !token.equals("land") && count("land") == 0 || token.equals("water") && count("house") > 0;
        return again ? 3 : many ? 5 : lacks ? 6 : 0;
    }

    private int faultOf(String token, String due) {
        switch (due.charAt(0)) {
            case '#':
                return token.matches("[0-9]{1,3}") ? faultOfWhole(Integer.parseInt(token), due.substring(1)) : 1;
            case '!':
                return !isName(token) ? 1 : sortOf.containsKey(token) ? 3 : 0;
            case '?':
                return !isName(token) ? 1 : !due.substring(1).equals(sortOf.get(token)) ? 2 : faultOfName(token);
            default:
                return List.of(due.split("\\|")).contains(token) ? 0 : 1;
        }
    }

    private static boolean isName(String token) {
        return token.matches("[a-z]{1,8}") && !LINES.containsKey(token);
    }

    private int faultOfName(String token) {
        String sort = line.get(0);
        if (sort.equals("older") && line.size() == 2) {
            String first = line.get(1);
            return first.equals(token) || pairs.contains(first + " " + token) || pairs.contains(token + " " + first) ? 3 : 0;
        }
        if (sort.equals("coin") || sort.equals("smell")) {
            return signs.contains(sort + " " + token) ? 3 : 0;
        }
        if (sort.equals("skin") && line.size() == 1) {
            int h = model.houses.indexOf(houseOf.get(token));
            return model.houses.get(h).skins.size() == 6 ? 5 : !model.fits(h) ? 7 : 0;
        }
        return 0;
    }

    private int faultOfWhole(int value, String bounds) {
        int x = line.size() > 2 && line.get(line.size() - 1).equals(",") ? Integer.parseInt(line.get(line.size() - 2)) : 0;
        switch (bounds) {
            case "wide":
            case "high":
                return value < 3 || value > 12 ? 4 : 0;
            case "x":
                return value >= model.wide ? 4 : 0;
            case "waterY":
                return value >= model.high ? 4 : model.water.contains(value * model.wide + x) ? 3 : 0;
            case "coreY":
                return value >= model.high ? 4 : !model.isFree(x, value) ? 7 : 0;
            case "place":
                return value > 2 * houseOf.get(line.get(1)).skins.size() ? 4 : 0;
            case "room":
                return value > houseOf.get(line.get(2)).skins.size() ? 4 : 0;
            default:
                String[] ends = bounds.split("-");
                int least = ends.length == 2 ? Integer.parseInt(ends[0]) : 0;
                return value < least || value > Integer.parseInt(ends[ends.length - 1]) ? 4 : 0;
        }
    }

    private int whole(int i) {
        return Integer.parseInt(line.get(i));
    }

    private void endLine() {
        String sort = line.get(0);
        lines.merge(sort, 1, Integer::sum);
        switch (sort) {
            case "land":
                model.wide = whole(2);
                model.high = whole(4);
                model.share = line.get(8).equals("yes");
                break;
            case "water":
                model.water.add(whole(3) * model.wide + whole(1));
                break;
            case "house":
                Model.House house = new Model.House();
                house.x = whole(3);
                house.y = whole(5);
                houseOf.put(line.get(1), house);
                model.houses.add(house);
                break;
            case "skin":
                houseOf.get(line.get(1)).skins.add(new Model.Skin());
                break;
            case "older":
                pairs.add(line.get(1) + " " + line.get(2));
                break;
            case "coin":
            case "smell":
                signs.add(sort + " " + line.get(1));
                break;
            default:
                break;
        }
        if (List.of("stone", "house", "heir", "wall").contains(sort)) {
            sortOf.put(line.get(1), sort);
        }
    }
}
