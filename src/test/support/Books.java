/** Puts texts on the tape, which only feed and trim can fill. */
final class Books {
    static final String OUT_OF_BOUNDS = "throws.IndexOutOfBoundsException";
    static final String ARGUMENT = "throws.IllegalArgumentException";
    static final String STATE = "throws.IllegalStateException";

    /** The words that are no names. */
    static final String[] WORDS = {"bay", "kettle", "steams", "customs", "clipper", "home", "noses", "steers", "if",
        "then", "else", "or", "and", "not", "least", "most", "north", "east", "south", "west", "here", "best", "leaf",
        "hour", "wind", "force"};
    /** A clipper as far as its rule. */
    static final String CLIPPER = "clipper a home 1,1 noses 1 steers ";
    /** Rules for the greatest and the smallest number, as a number of a book has 4 digits at most. */
    static final String MOST_NUMBER = "(2147*1000*1000+483*1000+647)";
    static final String LEAST_NUMBER = "(-2147*1000*1000-483*1000-648)";
    private static final int BLANKS = 0x20202020;

    private Books() {
    }

    /** Feeds it behind what the tape has, so many bytes, and cuts what does not belong to it. */
    static void feed(TeaRegatta x, int bytesBefore, String text) {
        for (int at = 0; at < text.length(); at += 20) {
            x.feed(four(text, at), four(text, at + 4), four(text, at + 8), four(text, at + 12), four(text, at + 16));
        }
        x.trim(bytesBefore + text.length());
    }

    static int feedBlanks(TeaRegatta x) {
        return x.feed(BLANKS, BLANKS, BLANKS, BLANKS, BLANKS);
    }

    static int teach(TeaRegatta x, String text) {
        feed(x, 0, text);
        return x.teach();
    }

    /** How many calls teach makes. */
    static int callsOfTeach(String text) {
        return (text.length() + 19) / 20 + 2;
    }

    /** A new object that was taught this book, which has to be without an error. */
    static TeaRegatta taught(String text) {
        TeaRegatta x = new TeaRegatta();
        int error = teach(x, text);
        if (error != 0) {
            throw new AssertionError("error " + error + " at " + x.errorAt() + " in " + text);
        }
        return x;
    }

    /** This is the error of the book, and there it is. */
    static void error(Check check, String text, int error, int position) {
        TeaRegatta x = new TeaRegatta();
        feed(x, 0, text);
        check.due("teach of " + text, error, x::teach);
        check.due("errorAt of " + text, position, x::errorAt);
    }

    /** The error 1 of a clipper with this rule; the position is from the rule's start. */
    static void ruleError(Check check, String rule, int position) {
        error(check, CLIPPER + rule + ";", 1, CLIPPER.length() + position);
    }

    static void ruleFine(Check check, String rule) {
        error(check, CLIPPER + rule + ";", 0, -1);
    }

    /** What the rule of a clipper tells, in an empty bay at the hour 0. */
    static void tells(Check check, String rule, int want) {
        check.due("ruleTells of " + rule, want, () -> taught(CLIPPER + rule + ";").ruleTells(0));
    }

    /** All that an object answers without being changed but for the tape, in a text. */
    static String standing(TeaRegatta x) {
        StringBuilder all = new StringBuilder();
        all.append(x.errorAt()).append(' ').append(x.digest()).append(" wind ").append(x.windDirection()).append(' ')
            .append(x.windForce()).append(" hour ").append(x.hour()).append(" mean ").append(x.meanPoints());
        int columns = x.columns();
        int rows = x.rows();
        all.append(" cells ").append(columns).append(' ').append(rows);
        for (int cell = 0; cell < columns * rows; cell++) {
            int column = cell % columns;
            int row = cell / columns;
            all.append(x.hasCustoms(column, row) ? " c" : " -").append(x.hasSteam(column, row) ? "k" : "-");
        }
        int kettles = x.kettles();
        for (int kettle = 0; kettle < kettles; kettle++) {
            all.append(" kettle ").append(x.becalmedFor(kettle)).append(' ').append(x.visitsTo(kettle));
        }
        int clippers = x.clippers();
        for (int clipper = 0; clipper < clippers; clipper++) {
            all.append(" clipper ").append(x.columnOf(clipper)).append(' ').append(x.rowOf(clipper)).append(' ')
                .append(x.isHome(clipper)).append(' ').append(x.leafOf(clipper)).append(' ').append(x.wayOf(clipper))
                .append(' ').append(x.pointsOf(clipper)).append(' ').append(x.sipsOf(clipper)).append(' ')
                .append(x.ruleTells(clipper));
        }
        return all.toString();
    }

    private static int four(String text, int from) {
        int number = 0;
        for (int at = from; at < from + 4; at++) {
            number = number << 8 | (at < text.length() ? text.charAt(at) & 255 : 32);
        }
        return number;
    }
}
