import java.util.ArrayList;
import java.util.HashSet;
import java.util.List;
import java.util.Map;
import java.util.Set;
import java.util.TreeMap;
import java.util.regex.Matcher;
import java.util.regex.Pattern;

/** The document written down a second time, in the plainest Java: what the class is held against. */
final class Model {
    interface Rule {
        int tells(Model bay, Clipper clipper);
    }

    static final class Token {
        final String text;
        final int at;

        Token(String text, int at) {
            this.text = text;
            this.at = at;
        }
    }

    static final class NoBook extends RuntimeException {
        private static final long serialVersionUID = 1L;
        final Token token;

        NoBook(Token token) {
            this.token = token;
        }
    }

    static final class Kettle {
        int column, row, steam, becalmed, visits;
    }

    static final class Clipper {
        int homeColumn, homeRow, noses, column, row, leaf, way, points, sips;
        Rule rule;
    }

    private static final Set<String> WORDS = Set.of("bay", "kettle", "steams", "customs", "clipper", "home", "noses",
        "steers", "if", "then", "else", "or", "and", "not", "least", "most", "north", "east", "south", "west", "here",
        "best", "leaf", "hour", "wind", "force");
    private static final List<String> AROUND = List.of("north", "east", "south", "west");
    private static final Pattern TOKEN = Pattern.compile("[ \n]*([a-z]+|[0-9]+|[^ \n])");
    private static final int[] EASTWARDS = {0, 1, 0, -1};
    private static final int[] SOUTHWARDS = {-1, 0, 1, 0};

    final String book;
    int error, errorAt = -1;
    int columns = 6, rows = 6, windDirection, windForce, hour;
    final List<Kettle> kettles = new ArrayList<>();
    final Set<Integer> customs = new HashSet<>();
    final List<Clipper> clippers = new ArrayList<>();

    private final List<Token> tokens = new ArrayList<>();
    private final List<Rule> rules = new ArrayList<>();
    private int next;

    /** What a new object is, when it is taught this book. */
    Model(String book) {
        this.book = book;
        cut();
        try {
            while (next < tokens.size() - 1) {
                line();
                take(";");
            }
        } catch (NoBook e) {
            error = 1;
            errorAt = e.token.at;
            return;
        }
        Map<Integer, Integer> wrong = new TreeMap<>();
        look(wrong);
        for (Map.Entry<Integer, Integer> first : wrong.entrySet()) {
            errorAt = tokens.get(first.getKey()).at;
            error = first.getValue();
            return;
        }
    }

    private void cut() {
        Matcher matcher = TOKEN.matcher(book);
        int from = 0;
        while (matcher.find(from)) {
            tokens.add(new Token(matcher.group(1), matcher.start(1)));
            from = matcher.end();
        }
        tokens.add(new Token("", book.length()));
    }

    private String here() {
        String text = tokens.get(next).text;
        if (next >= 400 && !text.isEmpty()) {
            return "too many";
        }
        return text;
    }

    private String take(String pattern) {
        String text = here();
        if (!text.matches(pattern)) {
            throw new NoBook(tokens.get(next));
        }
        next++;
        return text;
    }

    private boolean has(String pattern) {
        if (here().matches(pattern)) {
            next++;
            return true;
        }
        return false;
    }

    private int number() {
        return Integer.parseInt(take("[0-9]{1,4}"));
    }

    private void cell() {
        number();
        take(",");
        number();
    }

    private void line() {
        switch (take("bay|kettle|customs|clipper")) {
            case "kettle":
                cell();
                take("steams");
                number();
                break;
            case "clipper":
                if (WORDS.contains(take("[a-z]{1,8}"))) {
                    throw new NoBook(tokens.get(next - 1));
                }
                take("home");
                cell();
                take("noses");
                number();
                take("steers");
                rules.add(rule(0));
                break;
            default:
                cell();
                break;
        }
    }

    /** The depth behind the token that was just taken. */
    private int deeper(int depth) {
        if (depth == 6) {
            throw new NoBook(tokens.get(next - 1));
        }
        return depth + 1;
    }

    private Rule rule(int depth) {
        if (!has("if")) {
            return either(depth);
        }
        int inner = deeper(depth);
        Rule asked = rule(inner);
        take("then");
        Rule yes = rule(inner);
        take("else");
        Rule no = rule(inner);
        return (b, c) -> asked.tells(b, c) != 0 ? yes.tells(b, c) : no.tells(b, c);
    }

    private Rule either(int depth) {
        Rule left = both(depth);
        while (has("or")) {
            Rule one = left;
            Rule other = both(depth);
            left = (b, c) -> (one.tells(b, c) != 0) | (other.tells(b, c) != 0) ? 1 : 0;
        }
        return left;
    }

    private Rule both(int depth) {
        Rule left = compare(depth);
        while (has("and")) {
            Rule one = left;
            Rule other = compare(depth);
            left = (b, c) -> (one.tells(b, c) != 0) & (other.tells(b, c) != 0) ? 1 : 0;
        }
        return left;
    }

    private Rule compare(int depth) {
        Rule one = sum(depth);
        String sign = here();
        if (!has("[<>=]")) {
            return one;
        }
        Rule other = sum(depth);
        int want = sign.equals("<") ? -1 : sign.equals(">") ? 1 : 0;
        return (b, c) -> Integer.compare(one.tells(b, c), other.tells(b, c)) == want ? 1 : 0;
    }

    private Rule sum(int depth) {
        Rule left = product(depth);
        String sign = here();
        while (has("[+-]")) {
            Rule one = left;
            Rule other = product(depth);
            int factor = sign.equals("+") ? 1 : -1;
            left = (b, c) -> one.tells(b, c) + factor * other.tells(b, c);
            sign = here();
        }
        return left;
    }

    private Rule product(int depth) {
        Rule left = value(depth);
        String sign = here();
        while (has("[*/%]")) {
            Rule one = left;
            Rule other = value(depth);
            String its = sign;
            left = (b, c) -> product(its, one.tells(b, c), other.tells(b, c));
            sign = here();
        }
        return left;
    }

    private static int product(String sign, long left, long right) {
        if (sign.equals("*")) {
            return (int) (left * right);
        }
        if (right == 0) {
            return 0;
        }
        return (int) (sign.equals("/") ? left / right : left % right);
    }

    private Rule value(int depth) {
        String text = here();
        if (text.matches("[0-9]{1,4}")) {
            int number = number();
            return (b, c) -> number;
        }
        if (has("north|east|south|west|here|best|leaf|hour|wind|force")) {
            return (b, c) -> b.measure(c, text);
        }
        if (has("-")) {
            Rule one = value(deeper(depth));
            return (b, c) -> -one.tells(b, c);
        }
        if (has("not")) {
            Rule one = value(deeper(depth));
            return (b, c) -> one.tells(b, c) == 0 ? 1 : 0;
        }
        if (has("least|most")) {
            take("[(]");
            int inner = deeper(depth);
            Rule one = rule(inner);
            take(",");
            Rule other = rule(inner);
            take("[)]");
            boolean least = text.equals("least");
            return (b, c) -> least ? Math.min(one.tells(b, c), other.tells(b, c))
                : Math.max(one.tells(b, c), other.tells(b, c));
        }
        take("[(]");
        Rule inner = rule(deeper(depth));
        take("[)]");
        return inner;
    }

    /** A second way over the tokens, line by line, for the errors 2 to 5 and what the lines tell. */
    private void look(Map<Integer, Integer> wrong) {
        Set<String> names = new HashSet<>();
        Set<Integer> taken = new HashSet<>();
        int kettleLines = 0;
        int customsLines = 0;
        int clipperLines = 0;
        int at = 0;
        while (at < tokens.size() - 1) {
            switch (tokens.get(at).text) {
                case "bay":
                    within(wrong, at + 1, 3, 12);
                    within(wrong, at + 3, 3, 12);
                    if (at > 0) {
                        wrong.put(at, 4);
                    } else {
                        columns = numberAt(1);
                        rows = numberAt(3);
                    }
                    break;
                case "kettle":
                    kettleLines++;
                    if (kettleLines == 7) {
                        wrong.put(at, 4);
                    }
                    place(wrong, at + 1, taken);
                    within(wrong, at + 5, 1, 30);
                    Kettle kettle = new Kettle();
                    kettle.column = numberAt(at + 1);
                    kettle.row = numberAt(at + 3);
                    kettle.steam = numberAt(at + 5);
                    kettles.add(kettle);
                    break;
                case "customs":
                    customsLines++;
                    if (customsLines == 7) {
                        wrong.put(at, 4);
                    }
                    place(wrong, at + 1, taken);
                    customs.add(numberAt(at + 1) * 10000 + numberAt(at + 3));
                    break;
                default:
                    clipperLines++;
                    if (clipperLines == 7) {
                        wrong.put(at, 4);
                    }
                    if (!names.add(tokens.get(at + 1).text)) {
                        wrong.put(at + 1, 2);
                    }
                    within(wrong, at + 3, 0, columns - 1);
                    within(wrong, at + 5, 0, rows - 1);
                    within(wrong, at + 7, 1, 4);
                    Clipper clipper = new Clipper();
                    clipper.homeColumn = clipper.column = numberAt(at + 3);
                    clipper.homeRow = clipper.row = numberAt(at + 5);
                    clipper.noses = numberAt(at + 7);
                    clipper.rule = rules.get(clipperLines - 1);
                    clippers.add(clipper);
                    break;
            }
            while (!tokens.get(at).text.equals(";")) {
                at++;
            }
            at++;
        }
    }

    private int numberAt(int token) {
        return Integer.parseInt(tokens.get(token).text);
    }

    private void within(Map<Integer, Integer> wrong, int token, int least, int most) {
        if (numberAt(token) < least || numberAt(token) > most) {
            wrong.put(token, 5);
        }
    }

    private void place(Map<Integer, Integer> wrong, int token, Set<Integer> taken) {
        within(wrong, token, 0, columns - 1);
        within(wrong, token + 2, 0, rows - 1);
        if (!taken.add(numberAt(token) * 10000 + numberAt(token + 2))) {
            wrong.put(token + 2, 3);
        }
    }

    int measure(Clipper clipper, String name) {
        switch (name) {
            case "here":
                return aroma(clipper.column, clipper.row);
            case "best":
                int best = 3;
                for (int direction = 3; direction >= 0; direction--) {
                    best = smell(clipper, direction) >= smell(clipper, best) ? direction : best;
                }
                return best;
            case "leaf":
                return clipper.leaf;
            case "hour":
                return hour;
            case "wind":
                return windDirection;
            case "force":
                return windForce;
            default:
                return smell(clipper, AROUND.indexOf(name));
        }
    }

    boolean hasCell(int column, int row) {
        return Math.floorMod(column, columns) == column && Math.floorMod(row, rows) == row;
    }

    boolean hasCustoms(int column, int row) {
        return customs.contains(column * 10000 + row);
    }

    int aroma(int column, int row) {
        int sum = 0;
        for (Kettle kettle : kettles) {
            int fromColumn = kettle.column;
            int fromRow = kettle.row;
            for (int cells = 0; cells < windForce; cells++) {
                fromColumn += EASTWARDS[windDirection];
                fromRow += SOUTHWARDS[windDirection];
            }
            int left = kettle.becalmed > 0 ? 0 : kettle.steam;
            left -= 2 * Math.abs(fromColumn - column);
            left -= 2 * Math.abs(fromRow - row);
            if (left > 0) {
                sum += left;
            }
        }
        return sum;
    }

    int smell(Clipper clipper, int direction) {
        int column = clipper.column + EASTWARDS[direction];
        int row = clipper.row + SOUTHWARDS[direction];
        return hasCell(column, row) ? Math.min(5 * clipper.noses, aroma(column, row)) : 0;
    }

    int speed(Clipper clipper) {
        return (10 - clipper.leaf / 5) / (windForce == 0 ? 2 : 1);
    }

    int tells(Clipper clipper) {
        return clipper.rule.tells(this, clipper);
    }

    Kettle steamAt(int column, int row) {
        for (Kettle kettle : kettles) {
            if (kettle.column == column && kettle.row == row && kettle.becalmed == 0) {
                return kettle;
            }
        }
        return null;
    }

    int sail(int hours) {
        int before = points();
        for (int passed = 0; passed < hours; passed++) {
            List<Kettle> calm = new ArrayList<>(kettles);
            calm.removeIf(kettle -> kettle.becalmed == 0);
            clippers.forEach(this::turn);
            calm.forEach(kettle -> kettle.becalmed--);
            hour++;
        }
        return points() - before;
    }

    int points() {
        return clippers.stream().mapToInt(clipper -> clipper.points).sum();
    }

    private void turn(Clipper clipper) {
        clipper.way += speed(clipper);
        int told = clipper.way >= 10 ? tells(clipper) : -1;
        clipper.way %= 10;
        if (told >= 0) {
            int column = clipper.column + EASTWARDS[told % 4];
            int row = clipper.row + SOUTHWARDS[told % 4];
            if (hasCell(column, row)) {
                clipper.column = column;
                clipper.row = row;
                if (hasCustoms(column, row)) {
                    clipper.sips++;
                    clipper.leaf -= Math.min(clipper.leaf, clipper.leaf / 4 + 1);
                }
                if (column == clipper.homeColumn && row == clipper.homeRow) {
                    clipper.points += clipper.leaf;
                    clipper.leaf = 0;
                }
            }
        }
        Kettle kettle = steamAt(clipper.column, clipper.row);
        if (kettle != null && clipper.leaf < 30) {
            clipper.leaf = Math.min(30, clipper.leaf + 6);
            kettle.becalmed = 5;
            kettle.visits++;
        }
    }

    /** Another bay that stands like this one. */
    Model copy() {
        Model other = new Model(book);
        other.windDirection = windDirection;
        other.windForce = windForce;
        other.hour = hour;
        for (int i = 0; i < kettles.size(); i++) {
            other.kettles.get(i).becalmed = kettles.get(i).becalmed;
            other.kettles.get(i).visits = kettles.get(i).visits;
        }
        for (int i = 0; i < clippers.size(); i++) {
            Clipper from = clippers.get(i);
            Clipper to = other.clippers.get(i);
            to.column = from.column;
            to.row = from.row;
            to.leaf = from.leaf;
            to.way = from.way;
            to.points = from.points;
            to.sips = from.sips;
        }
        return other;
    }
}
