import java.util.Random;

/** Random books and random calls, held against Model; the seeds are written down, so that runs repeat. */
public final class ModelTest {
    private static final Check check = new Check();
    private static final String[] MEASURES = {"north", "east", "south", "west", "here", "best", "leaf", "hour", "wind",
        "force"};
    private static final String[] SIGNS = {"+", "-", "*", "/", "%", "<", ">", "=", " or ", " and "};
    private static final String[] PIECES = {"bay", "kettle", "steams", "customs", "clipper", "home", "noses", "steers",
        "if", "then", "else", "or", "and", "not", "least", "most", "north", "best", "rose", "12345", "abcdefghi", "0",
        "3", "7", "30", "31", "(", ")", ";", ",", "<", ">", "=", "+", "-", "*", "/", "%", "?", " ", "\n", "A", "\u00ff",
        "bay 4,4;", "kettle 1,1 steams 4;", "customs 2,2;", "((((((", "------"};

    private final Random random;
    private TeaRegatta x = new TeaRegatta();
    private Model model = new Model("");
    private int errorAt = -1;
    private int calls = 0;
    private String story = "";

    private ModelTest(long seed) {
        random = new Random(seed);
    }

    public static void main(String[] args) {
        for (int seed = 0; seed < 1500; seed++) {
            new ModelTest(seed).run();
        }
        check.end();
    }

    private void run() {
        while (calls < 400) {
            int kind = random.nextInt(12);
            if (calls == 0 || kind == 0) {
                teach();
            } else if (kind < 6) {
                byHand();
            } else {
                ahead();
            }
            look();
        }
    }

    private void due(String what, Object want, Check.Call call) {
        calls++;
        check.due(story + what, want, call);
    }

    private int upTo(int most) {
        return random.nextInt(most + 1);
    }

    private void teach() {
        String book = book();
        for (int times = random.nextInt(4); times > 1; times--) {
            book = spoilt(book);
        }
        if (book.length() > 1600) {
            return;
        }
        Model taught = new Model(book);
        story = "behind " + book + ": ";
        Books.feed(x, 0, book);
        calls += (book.length() + 19) / 20 + 1;
        due("teach", taught.error, x::teach);
        errorAt = taught.errorAt;
        if (taught.error == 0) {
            model = taught;
        }
    }

    private String spoilt(String book) {
        int at = upTo(book.length());
        int to = Math.min(book.length(), at + random.nextInt(3) * random.nextInt(4));
        return book.substring(0, at) + PIECES[random.nextInt(PIECES.length)] + book.substring(to);
    }

    private String book() {
        StringBuilder book = new StringBuilder();
        int columns = 6;
        int rows = 6;
        if (random.nextInt(4) > 0) {
            columns = 3 + random.nextInt(random.nextBoolean() ? 3 : 10);
            rows = 3 + random.nextInt(random.nextBoolean() ? 3 : 10);
            book.append("bay ").append(columns).append(",").append(rows).append(";");
        }
        for (int lines = 1 + random.nextInt(11); lines > 0; lines--) {
            int kind = random.nextInt(3);
            int column = random.nextInt(columns);
            int row = random.nextInt(rows);
            if (kind == 0) {
                book.append("kettle ").append(column).append(",").append(row).append(" steams ")
                    .append(1 + random.nextInt(30)).append(";\n");
            } else if (kind == 1) {
                book.append("customs ").append(column).append(",").append(row).append(";");
            } else {
                book.append("clipper ").append((char) ('a' + random.nextInt(26))).append(" home ").append(column)
                    .append(",").append(row).append(" noses ").append(1 + random.nextInt(4)).append(" steers ")
                    .append(rule(random.nextInt(5))).append(";\n");
            }
        }
        return book.toString();
    }

    private String rule(int size) {
        switch (random.nextInt(size > 0 ? 12 : 4)) {
            case 0:
                return "" + random.nextInt(random.nextBoolean() ? 5 : 10000);
            case 1:
                return random.nextBoolean() ? "best" : "hour%4";
            case 2:
            case 3:
                return MEASURES[random.nextInt(MEASURES.length)];
            case 4:
                return "-" + value(size - 1);
            case 5:
                return "not " + value(size - 1);
            case 6:
                return "if leaf>" + random.nextInt(20) + " then " + rule(size - 1) + " else " + rule(size - 1);
            case 7:
                return "if " + rule(size - 1) + " then " + rule(size - 1) + " else " + rule(size - 1);
            case 8:
                return (random.nextBoolean() ? "least(" : "most(") + rule(size - 1) + "," + rule(size - 1) + ")";
            case 9:
                return "(" + rule(size - 1) + ")";
            default:
                return value(size - 1) + SIGNS[random.nextInt(SIGNS.length)] + value(size - 1);
        }
    }

    private String value(int size) {
        String rule = rule(size);
        return rule.matches("[a-z]+|[0-9]+") || random.nextInt(4) == 0 ? rule : "(" + rule + ")";
    }

    private void byHand() {
        int number = upTo(7) - 1;
        int other = random.nextInt(5) == 0 ? upTo(130) - 5 : upTo(4) - 1;
        switch (random.nextInt(5)) {
            case 0:
                String wind = number < 0 || number > 3 ? Books.OUT_OF_BOUNDS : other < 0 || other > 3 ? Books.ARGUMENT : "";
                due("setWind " + number + "," + other, wind.isEmpty() ? model.windForce : wind, () -> x.setWind(number, other));
                if (wind.isEmpty()) {
                    model.windDirection = number;
                    model.windForce = other;
                }
                break;
            case 1:
                jettison(number, other);
                break;
            case 2:
                calmKettle(number, other);
                break;
            default:
                int hours = upTo(70) - 4;
                Object sailed = hours < 1 || hours > 60 ? Books.ARGUMENT : model.sail(hours);
                due("sail " + hours, sailed, () -> x.sail(hours));
                break;
        }
    }

    private void jettison(int number, int leaf) {
        boolean there = number >= 0 && number < model.clippers.size();
        int has = there ? model.clippers.get(number).leaf : 0;
        Object want = !there ? Books.OUT_OF_BOUNDS : leaf < 1 ? Books.ARGUMENT : leaf > has ? Books.STATE : has - leaf;
        due("jettison " + number + "," + leaf, want, () -> x.jettison(number, leaf));
        if (want.equals(has - leaf)) {
            model.clippers.get(number).leaf = has - leaf;
        }
    }

    private void calmKettle(int number, int hours) {
        boolean there = number >= 0 && number < model.kettles.size();
        int was = there ? model.kettles.get(number).becalmed : 0;
        boolean right = hours >= 0 && hours <= 20;
        Object want = !there ? Books.OUT_OF_BOUNDS : right ? was : Books.ARGUMENT;
        due("calmKettle " + number + "," + hours, want, () -> x.calmKettle(number, hours));
        if (there && right) {
            model.kettles.get(number).becalmed = hours;
        }
    }

    private void ahead() {
        int count = model.clippers.size();
        if (count == 0) {
            due("leader", Books.STATE, x::leader);
            return;
        }
        int clipper = random.nextInt(count);
        int hours = 1 + random.nextInt(60);
        int[] points = new int[4];
        int best = 0;
        for (int direction = 0; direction < 4; direction++) {
            Model would = model.copy();
            would.windDirection = direction;
            would.sail(hours);
            points[direction] = would.clippers.get(clipper).points;
            best = points[direction] > points[best] ? direction : best;
        }
        int found = best;
        due("bestWind", found, () -> x.bestWind(clipper, hours));
        due("pointsBehind", points[model.windDirection], () -> x.pointsBehind(clipper, hours));
        Model would = model.copy();
        int until = 0;
        while (until < 121 && would.clippers.get(clipper).points == model.clippers.get(clipper).points) {
            would.sail(1);
            until++;
        }
        int passed = until > 120 ? -1 : until;
        due("hoursUntilPoints", passed, () -> x.hoursUntilPoints(clipper));
        int first = count - 1;
        for (int other = count - 1; other >= 0; other--) {
            Model.Clipper a = model.clippers.get(other);
            Model.Clipper b = model.clippers.get(first);
            first = a.points > b.points || a.points == b.points && a.leaf >= b.leaf ? other : first;
        }
        int ahead = first;
        due("leader", ahead, x::leader);
        due("meanPoints", (double) model.points() / count, x::meanPoints);
    }

    private void look() {
        due("errorAt", errorAt, x::errorAt);
        due("columns", model.columns, x::columns);
        due("rows", model.rows, x::rows);
        due("kettles", model.kettles.size(), x::kettles);
        due("clippers", model.clippers.size(), x::clippers);
        due("windDirection", model.windDirection, x::windDirection);
        due("windForce", model.windForce, x::windForce);
        due("hour", model.hour, x::hour);
        int column = upTo(model.columns + 1) - 1;
        int row = upTo(model.rows + 1) - 1;
        boolean cell = model.hasCell(column, row);
        due("hasCustoms", cell ? model.hasCustoms(column, row) : Books.OUT_OF_BOUNDS, () -> x.hasCustoms(column, row));
        due("hasSteam", cell ? model.steamAt(column, row) != null : Books.OUT_OF_BOUNDS, () -> x.hasSteam(column, row));
        due("aromaAt", cell ? model.aroma(column, row) : Books.OUT_OF_BOUNDS, () -> x.aromaAt(column, row));
        int kettles = model.kettles.size();
        if (kettles > 0) {
            int number = random.nextInt(kettles);
            due("becalmedFor", model.kettles.get(number).becalmed, () -> x.becalmedFor(number));
            due("visitsTo", model.kettles.get(number).visits, () -> x.visitsTo(number));
        }
        if (model.clippers.size() > 0) {
            lookAt(random.nextInt(model.clippers.size()));
        }
        due("digest", digest(), x::digest);
    }

    private void lookAt(int number) {
        Model.Clipper clipper = model.clippers.get(number);
        due("columnOf", clipper.column, () -> x.columnOf(number));
        due("rowOf", clipper.row, () -> x.rowOf(number));
        boolean home = clipper.column == clipper.homeColumn && clipper.row == clipper.homeRow;
        due("isHome", home, () -> x.isHome(number));
        due("leafOf", clipper.leaf, () -> x.leafOf(number));
        due("wayOf", clipper.way, () -> x.wayOf(number));
        due("speedOf", model.speed(clipper), () -> x.speedOf(number));
        due("pointsOf", clipper.points, () -> x.pointsOf(number));
        due("sipsOf", clipper.sips, () -> x.sipsOf(number));
        int direction = random.nextInt(4);
        due("smells", model.smell(clipper, direction), () -> x.smells(number, direction));
        int told = model.tells(clipper);
        due("ruleTells", told, () -> x.ruleTells(number));
        due("wouldStay", told < 0, () -> x.wouldStay(number));
        due("steersTo", told < 0 ? Books.STATE : (Object) (told % 4), () -> x.steersTo(number));
    }

    private long digest() {
        long d = 1901;
        for (int number : new int[] {model.columns, model.rows, model.kettles.size(), model.clippers.size(),
            model.windDirection, model.windForce, model.hour}) {
            d = d * 31 + number;
        }
        for (int cell = 0; cell < model.columns * model.rows; cell++) {
            d = d * 31 + model.aroma(cell % model.columns, cell / model.columns);
        }
        for (Model.Kettle kettle : model.kettles) {
            d = (d * 31 + kettle.becalmed) * 31 + kettle.visits;
        }
        for (Model.Clipper clipper : model.clippers) {
            for (int number : new int[] {clipper.column, clipper.row, clipper.leaf, clipper.way, clipper.points,
                clipper.sips, model.tells(clipper)}) {
                d = d * 31 + number;
            }
        }
        return d;
    }
}
