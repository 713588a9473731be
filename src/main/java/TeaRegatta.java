/**
 * A regatta of tea clippers by aroma; what each call answers stands in DOC.md.
 *
 * <p>All rows are made in the constructors and used again, so that no call makes an object (but for
 * an exception that it throws).
 */
public final class TeaRegatta {
    private static final int MOST_BYTES = 1600;
    private static final int FED_BYTES = 20;
    private static final int MOST_TOKENS = 400;
    private static final int MOST_DEPTH = 6;

    private static final int MOST_PLACES = 6;
    private static final int MOST_CLIPPERS = 6;
    private static final int LEAST_SIZE = 3;
    private static final int MOST_SIZE = 12;
    private static final int FIRST_SIZE = 6;
    private static final int MOST_STEAM = 30;
    private static final int MOST_NOSES = 4;

    private static final int DIRECTIONS = 4;
    private static final int EAST_WARDS = 1;
    private static final int SOUTH_WARDS = 2;
    private static final int WEST_WARDS = 3;
    private static final int MOST_FORCE = 3;

    private static final int SMELL_OF_A_NOSE = 5;
    private static final int AROMA_LOST_A_CELL = 2;
    private static final int WAY_OF_A_MOVE = 10;
    private static final int LEAF_THAT_SLOWS = 5;
    private static final int MOST_LEAF = 30;
    private static final int LEAF_OF_A_VISIT = 6;
    private static final int HOURS_OF_A_VISIT = 5;
    private static final int MOST_HOURS_CALMED = 20;
    private static final int MOST_HOURS = 60;
    private static final int MOST_HOURS_AHEAD = 120;

    private static final long DIGEST_START = 1901L;
    private static final long DIGEST_FACTOR = 31L;

    // Kinds of tokens. A sign's kind is its byte, so that these stay away from 37 to 62.
    private static final int END = 0;
    private static final int BAD = 1;
    private static final int NUMBER = 2;
    private static final int NAME = 3;
    // Never a token: in a told rule the - in front of a value, to tell it from the - between two.
    private static final int NEGATE = 4;

    // The kinds of the words stand in the order of WORDS, from FIRST_WORD on.
    private static final String WORDS = "bay kettle steams customs clipper home noses steers if then else or and not least most north east south west here best leaf hour wind force ";
    private static final int WORD_COUNT = 26;
    private static final int FIRST_WORD = 100;
    private static final int BAY = 100;
    private static final int KETTLE = 101;
    private static final int STEAMS = 102;
    private static final int CUSTOMS = 103;
    private static final int CLIPPER = 104;
    private static final int HOME = 105;
    private static final int NOSES = 106;
    private static final int STEERS = 107;
    private static final int IF = 108;
    private static final int THEN = 109;
    private static final int ELSE = 110;
    private static final int OR = 111;
    private static final int AND = 112;
    private static final int NOT = 113;
    private static final int LEAST = 114;
    private static final int MOST = 115;
    private static final int NORTH = 116;
    private static final int HERE = 120;
    private static final int BEST = 121;
    private static final int LEAF = 122;
    private static final int HOUR = 123;
    private static final int WIND = 124;
    private static final int FORCE = 125;

    private static final String SIGNS = "();,<>=+-*/%";
    private static final int MOST_LETTERS = 8;
    private static final int MOST_DIGITS = 4;
    private static final int BLANK = 32;
    private static final int LINE_END = 10;

    private static final int ERROR_BOOK = 1;
    private static final int ERROR_NAME = 2;
    private static final int ERROR_PLACE = 3;
    private static final int ERROR_LINE = 4;
    private static final int ERROR_NUMBER = 5;
    private static final int NONE = -1;

    private final Tape tape;
    private final BookReader reader;
    private final Bay bay;
    private final Bay trial;
    private Book book;
    private Book spare;
    private int errorPosition;

    public TeaRegatta() {
        tape = new Tape();
        reader = new BookReader(tape);
        book = new Book();
        spare = new Book();
        RuleTeller teller = new RuleTeller();
        bay = new Bay(book, teller);
        trial = new Bay(book, teller);
        errorPosition = NONE;
    }

    // ---- the book

    public int feed(int a, int b, int c, int d, int e) throws IllegalStateException {
        if (tape.length > MOST_BYTES - FED_BYTES) {
            throw new IllegalStateException("the tape would be too long");
        }
        tape.append(a);
        tape.append(b);
        tape.append(c);
        tape.append(d);
        tape.append(e);
        return tape.length;
    }

    public int trim(int bytes) throws IllegalArgumentException {
        if (bytes < 0 || bytes > tape.length) {
            throw new IllegalArgumentException("the tape has not so many bytes");
        }
        tape.length = bytes;
        return bytes;
    }

    public int teach() {
        int error = reader.read(spare);
        errorPosition = reader.errorPosition;
        tape.length = 0;
        if (error == 0) {
            Book before = book;
            book = spare;
            spare = before;
            bay.begin(book);
        }
        return error;
    }

    public int errorAt() {
        return errorPosition;
    }

    public int columns() {
        return book.columns;
    }

    public int rows() {
        return book.rows;
    }

    public int kettles() {
        return book.kettleCount;
    }

    public int clippers() {
        return book.clipperCount;
    }

    // ---- the bay

    public boolean hasCustoms(int column, int row) throws IndexOutOfBoundsException {
        needCell(column, row);
        return book.hasCustomsAt(column, row);
    }

    public boolean hasSteam(int column, int row) throws IndexOutOfBoundsException {
        needCell(column, row);
        return bay.steamingKettleAt(column, row) != NONE;
    }

    public int aromaAt(int column, int row) throws IndexOutOfBoundsException {
        needCell(column, row);
        return bay.aroma(column, row);
    }

    public int becalmedFor(int kettle) throws IndexOutOfBoundsException {
        needKettle(kettle);
        return bay.becalmed[kettle];
    }

    public int visitsTo(int kettle) throws IndexOutOfBoundsException {
        needKettle(kettle);
        return bay.visits[kettle];
    }

    public int windDirection() {
        return bay.windDirection;
    }

    public int windForce() {
        return bay.windForce;
    }

    public int hour() {
        return bay.hour;
    }

    // ---- clippers

    public int columnOf(int clipper) throws IndexOutOfBoundsException {
        needClipper(clipper);
        return bay.column[clipper];
    }

    public int rowOf(int clipper) throws IndexOutOfBoundsException {
        needClipper(clipper);
        return bay.row[clipper];
    }

    public boolean isHome(int clipper) throws IndexOutOfBoundsException {
        needClipper(clipper);
        return bay.isAtHome(clipper);
    }

    public int leafOf(int clipper) throws IndexOutOfBoundsException {
        needClipper(clipper);
        return bay.leaf[clipper];
    }

    public int wayOf(int clipper) throws IndexOutOfBoundsException {
        needClipper(clipper);
        return bay.way[clipper];
    }

    public int speedOf(int clipper) throws IndexOutOfBoundsException {
        needClipper(clipper);
        return bay.wayOfAnHour(clipper);
    }

    public int pointsOf(int clipper) throws IndexOutOfBoundsException {
        needClipper(clipper);
        return bay.points[clipper];
    }

    public int sipsOf(int clipper) throws IndexOutOfBoundsException {
        needClipper(clipper);
        return bay.sips[clipper];
    }

    public int smells(int clipper, int direction) throws IndexOutOfBoundsException {
        needClipper(clipper);
        needDirection(direction);
        return bay.smell(clipper, direction);
    }

    public int ruleTells(int clipper) throws IndexOutOfBoundsException {
        needClipper(clipper);
        return bay.tell(clipper);
    }

    public boolean wouldStay(int clipper) throws IndexOutOfBoundsException {
        needClipper(clipper);
        return bay.tell(clipper) < 0;
    }

    public int steersTo(int clipper) throws IndexOutOfBoundsException, IllegalStateException {
        needClipper(clipper);
        int told = bay.tell(clipper);
        if (told < 0) {
            throw new IllegalStateException("the clipper would stay");
        }
        return told % DIRECTIONS;
    }

    public int leader() throws IllegalStateException {
        if (book.clipperCount < 1) {
            throw new IllegalStateException("there are no clippers");
        }
        int first = 0;
        for (int clipper = 1; clipper < book.clipperCount; clipper++) {
            if (bay.isAhead(clipper, first)) {
                first = clipper;
            }
        }
        return first;
    }

    // ---- by hand

    public int setWind(int direction, int force) throws IndexOutOfBoundsException, IllegalArgumentException {
        needDirection(direction);
        if (force < 0 || force > MOST_FORCE) {
            throw new IllegalArgumentException("no such force");
        }
        int before = bay.windForce;
        bay.windDirection = direction;
        bay.windForce = force;
        return before;
    }

    public int jettison(int clipper, int leaf)
            throws IndexOutOfBoundsException, IllegalArgumentException, IllegalStateException {
        needClipper(clipper);
        if (leaf < 1) {
            throw new IllegalArgumentException("less than 1 leaf");
        }
        if (leaf > bay.leaf[clipper]) {
            throw new IllegalStateException("the clipper has not so much leaf");
        }
        bay.leaf[clipper] -= leaf;
        return bay.leaf[clipper];
    }

    public int calmKettle(int kettle, int hours) throws IndexOutOfBoundsException, IllegalArgumentException {
        needKettle(kettle);
        if (hours < 0 || hours > MOST_HOURS_CALMED) {
            throw new IllegalArgumentException("hours are not 0 to 20");
        }
        int before = bay.becalmed[kettle];
        bay.becalmed[kettle] = hours;
        return before;
    }

    public int sail(int hours) throws IllegalArgumentException {
        needHours(hours);
        return bay.passHours(hours);
    }

    // ---- what would be

    public int pointsBehind(int clipper, int hours) throws IndexOutOfBoundsException, IllegalArgumentException {
        needClipper(clipper);
        needHours(hours);
        trial.copy(bay);
        trial.passHours(hours);
        return trial.points[clipper];
    }

    public int hoursUntilPoints(int clipper) throws IndexOutOfBoundsException {
        needClipper(clipper);
        trial.copy(bay);
        for (int hours = 1; hours <= MOST_HOURS_AHEAD; hours++) {
            trial.passHour();
            if (trial.points[clipper] > bay.points[clipper]) {
                return hours;
            }
        }
        return NONE;
    }

    public int bestWind(int clipper, int hours) throws IndexOutOfBoundsException, IllegalArgumentException {
        needClipper(clipper);
        needHours(hours);
        int best = 0;
        int mostPoints = NONE;
        for (int direction = 0; direction < DIRECTIONS; direction++) {
            trial.copy(bay);
            trial.windDirection = direction;
            trial.passHours(hours);
            if (trial.points[clipper] > mostPoints) {
                mostPoints = trial.points[clipper];
                best = direction;
            }
        }
        return best;
    }

    public double meanPoints() {
        int count = book.clipperCount;
        if (count < 1) {
            return 0.0;
        }
        int sum = 0;
        for (int clipper = 0; clipper < count; clipper++) {
            sum += bay.points[clipper];
        }
        return (double) sum / (double) count;
    }

    public long digest() {
        long d = DIGEST_START;
        d = digestWith(d, book.columns);
        d = digestWith(d, book.rows);
        d = digestWith(d, book.kettleCount);
        d = digestWith(d, book.clipperCount);
        d = digestWith(d, bay.windDirection);
        d = digestWith(d, bay.windForce);
        d = digestWith(d, bay.hour);
        d = digestAromas(d);
        d = digestKettles(d);
        return digestClippers(d);
    }

    private long digestAromas(long before) {
        long d = before;
        for (int row = 0; row < book.rows; row++) {
            for (int column = 0; column < book.columns; column++) {
                d = digestWith(d, bay.aroma(column, row));
            }
        }
        return d;
    }

    private long digestKettles(long before) {
        long d = before;
        for (int kettle = 0; kettle < book.kettleCount; kettle++) {
            d = digestWith(d, bay.becalmed[kettle]);
            d = digestWith(d, bay.visits[kettle]);
        }
        return d;
    }

    private long digestClippers(long before) {
        long d = before;
        for (int clipper = 0; clipper < book.clipperCount; clipper++) {
            d = digestWith(d, bay.column[clipper]);
            d = digestWith(d, bay.row[clipper]);
            d = digestWith(d, bay.leaf[clipper]);
            d = digestWith(d, bay.way[clipper]);
            d = digestWith(d, bay.points[clipper]);
            d = digestWith(d, bay.sips[clipper]);
            d = digestWith(d, bay.tell(clipper));
        }
        return d;
    }

    private static long digestWith(long d, int x) {
        return d * DIGEST_FACTOR + x;
    }

    private void needCell(int column, int row) {
        if (!book.hasCell(column, row)) {
            throw new IndexOutOfBoundsException("no such cell");
        }
    }

    private void needKettle(int kettle) {
        if (kettle < 0 || kettle >= book.kettleCount) {
            throw new IndexOutOfBoundsException("no such kettle");
        }
    }

    private void needClipper(int clipper) {
        if (clipper < 0 || clipper >= book.clipperCount) {
            throw new IndexOutOfBoundsException("no such clipper");
        }
    }

    private static void needDirection(int direction) {
        if (direction < 0 || direction >= DIRECTIONS) {
            throw new IndexOutOfBoundsException("no such direction");
        }
    }

    private static void needHours(int hours) {
        if (hours < 1 || hours > MOST_HOURS) {
            throw new IllegalArgumentException("hours are not 1 to 60");
        }
    }

    /** The bytes that feed and trim fill. */
    private static final class Tape {
        private final byte[] bytes;
        private int length;

        Tape() {
            bytes = new byte[MOST_BYTES];
            length = 0;
        }

        void append(int number) {
            for (int shift = 24; shift >= 0; shift -= 8) {
                if (length < bytes.length) {
                    bytes[length] = (byte) (number >>> shift);
                    length++;
                }
            }
        }

        /** The byte there, 0 to 255; NONE behind the end. */
        int byteAt(int position) {
            if (position < 0 || position >= length) {
                return NONE;
            }
            return bytes[position] & 255;
        }
    }

    /** The tape's tokens, the end of the tape being the last one, and which one is to be read next. */
    private static final class Tokens {
        private final Tape tape;
        private final long[] words;
        private final int[] kinds;
        private final int[] starts;
        private final long[] values;
        private int count;
        private int next;

        Tokens(Tape source) {
            tape = source;
            words = new long[WORD_COUNT];
            // One more than a book may have: for the end, or the token that is one too many.
            kinds = new int[MOST_TOKENS + 1];
            starts = new int[MOST_TOKENS + 1];
            values = new long[MOST_TOKENS + 1];
            int word = 0;
            long value = 0;
            for (int at = 0; at < WORDS.length(); at++) {
                char letter = WORDS.charAt(at);
                if (letter != ' ') {
                    value = wordWith(value, letter);
                } else if (word < WORD_COUNT) {
                    words[word] = value;
                    word++;
                    value = 0;
                }
            }
        }

        /** Behind a BAD token none is looked for: no book can hold it. */
        void cutTape() {
            count = 0;
            next = 0;
            int position = 0;
            for (int token = 0; token <= MOST_TOKENS; token++) {
                int start = behindBlanks(position);
                position = endOfToken(start);
                values[token] = valueOf(start, position);
                kinds[token] = token < MOST_TOKENS || tape.byteAt(start) == NONE
                        ? kindOf(start, position, values[token]) : BAD;
                starts[token] = start;
                count = token + 1;
                if (kinds[token] == END || kinds[token] == BAD) {
                    return;
                }
            }
        }

        int kindHere() {
            return next >= 0 && next < count ? kinds[next] : END;
        }

        int startHere() {
            return next >= 0 && next < count ? starts[next] : tape.length;
        }

        long valueHere() {
            return next >= 0 && next < count ? values[next] : 0;
        }

        void skip() {
            next++;
        }

        boolean take(int kind) {
            if (kindHere() != kind) {
                return false;
            }
            next++;
            return true;
        }

        private int behindBlanks(int from) {
            int at = from;
            while (at < tape.length && (tape.byteAt(at) == BLANK || tape.byteAt(at) == LINE_END)) {
                at++;
            }
            return at;
        }

        private int endOfToken(int start) {
            int first = tape.byteAt(start);
            int end = start + 1;
            if (isLetter(first)) {
                while (end < tape.length && isLetter(tape.byteAt(end))) {
                    end++;
                }
            } else if (isDigit(first)) {
                while (end < tape.length && isDigit(tape.byteAt(end))) {
                    end++;
                }
            }
            return end;
        }

        private long valueOf(int start, int end) {
            long value = 0;
            for (int at = start; at < end; at++) {
                int sign = tape.byteAt(at);
                value = isDigit(sign) ? value * 10 + (sign - '0') : wordWith(value, sign);
            }
            return value;
        }

        private int kindOf(int start, int end, long value) {
            int first = tape.byteAt(start);
            if (first == NONE) {
                return END;
            }
            if (isLetter(first)) {
                return end - start > MOST_LETTERS ? BAD : kindOfWord(value);
            }
            if (isDigit(first)) {
                return end - start > MOST_DIGITS ? BAD : NUMBER;
            }
            return SIGNS.indexOf((char) first) >= 0 ? first : BAD;
        }

        private int kindOfWord(long value) {
            for (int word = 0; word < WORD_COUNT; word++) {
                if (words[word] == value) {
                    return FIRST_WORD + word;
                }
            }
            return NAME;
        }

        /** Five bits a letter, so that words of up to 8 letters have numbers of their own. */
        private static long wordWith(long value, int letter) {
            return value * 32 + (letter & 31);
        }

        private static boolean isLetter(int sign) {
            return sign >= 'a' && sign <= 'z';
        }

        private static boolean isDigit(int sign) {
            return sign >= '0' && sign <= '9';
        }
    }

    /** The rules of a book, each as its values with their signs behind them. */
    private static final class Rules {
        private final int[] kinds;
        private final int[] numbers;
        private int count;

        Rules() {
            // A rule never has more steps than tokens.
            kinds = new int[MOST_TOKENS];
            numbers = new int[MOST_TOKENS];
            count = 0;
        }

        void add(int kind, int number) {
            if (count < kinds.length) {
                kinds[count] = kind;
                numbers[count] = number;
                count++;
            }
        }
    }

    /** What a book tells; nothing in it changes while it is sailed by. */
    private static final class Book {
        private final Rules rules;
        private final int[] kettleColumn;
        private final int[] kettleRow;
        private final int[] kettleSteam;
        private final int[] customsColumn;
        private final int[] customsRow;
        private final long[] name;
        private final int[] homeColumn;
        private final int[] homeRow;
        private final int[] noses;
        private final int[] ruleStart;
        private final int[] ruleEnd;
        private int columns;
        private int rows;
        private int kettleCount;
        private int customsCount;
        private int clipperCount;

        Book() {
            rules = new Rules();
            kettleColumn = new int[MOST_PLACES];
            kettleRow = new int[MOST_PLACES];
            kettleSteam = new int[MOST_PLACES];
            customsColumn = new int[MOST_PLACES];
            customsRow = new int[MOST_PLACES];
            name = new long[MOST_CLIPPERS];
            homeColumn = new int[MOST_CLIPPERS];
            homeRow = new int[MOST_CLIPPERS];
            noses = new int[MOST_CLIPPERS];
            ruleStart = new int[MOST_CLIPPERS];
            ruleEnd = new int[MOST_CLIPPERS];
            columns = FIRST_SIZE;
            rows = FIRST_SIZE;
        }

        void empty() {
            rules.count = 0;
            columns = FIRST_SIZE;
            rows = FIRST_SIZE;
            kettleCount = 0;
            customsCount = 0;
            clipperCount = 0;
        }

        void addKettle(int column, int row, int steam) {
            if (kettleCount < MOST_PLACES) {
                kettleColumn[kettleCount] = column;
                kettleRow[kettleCount] = row;
                kettleSteam[kettleCount] = steam;
                kettleCount++;
            }
        }

        void addCustoms(int column, int row) {
            if (customsCount < MOST_PLACES) {
                customsColumn[customsCount] = column;
                customsRow[customsCount] = row;
                customsCount++;
            }
        }

        /** Its rule is what was added to the rules from there on. */
        void addClipper(long itsName, int column, int row, int itsNoses, int itsRuleStart) {
            if (clipperCount < MOST_CLIPPERS) {
                name[clipperCount] = itsName;
                homeColumn[clipperCount] = column;
                homeRow[clipperCount] = row;
                noses[clipperCount] = itsNoses;
                ruleStart[clipperCount] = itsRuleStart;
                ruleEnd[clipperCount] = rules.count;
                clipperCount++;
            }
        }

        boolean hasCell(int column, int row) {
            return column >= 0 && column < columns && row >= 0 && row < rows;
        }

        int kettleAt(int column, int row) {
            for (int kettle = 0; kettle < kettleCount; kettle++) {
                if (kettleColumn[kettle] == column && kettleRow[kettle] == row) {
                    return kettle;
                }
            }
            return NONE;
        }

        boolean hasCustomsAt(int column, int row) {
            for (int customs = 0; customs < customsCount; customs++) {
                if (customsColumn[customs] == column && customsRow[customs] == row) {
                    return true;
                }
            }
            return false;
        }

        boolean hasName(long wanted) {
            for (int clipper = 0; clipper < clipperCount; clipper++) {
                if (name[clipper] == wanted) {
                    return true;
                }
            }
            return false;
        }
    }

    /**
     * Reads a book's lines. What is wrong but for error 1 is only noted on the way: an error 1
     * behind it is told instead.
     */
    private static final class BookReader {
        private final Tokens tokens;
        private final RuleReader ruleReader;
        private int error;
        private int errorPosition;
        private int cellColumn;
        private int cellRow;

        BookReader(Tape tape) {
            tokens = new Tokens(tape);
            ruleReader = new RuleReader(tokens);
        }

        /** Answers 0, or the error; then the book is not to be used. */
        int read(Book book) {
            tokens.cutTape();
            book.empty();
            error = 0;
            errorPosition = NONE;
            for (int line = 0; line <= MOST_TOKENS && tokens.kindHere() != END; line++) {
                int kind = tokens.kindHere();
                boolean whole = kind == BAY && readBay(book, line)
                        || kind == KETTLE && readKettle(book)
                        || kind == CUSTOMS && readCustoms(book)
                        || kind == CLIPPER && readClipper(book);
                if (!whole || !tokens.take(';')) {
                    error = 0;
                    note(ERROR_BOOK);
                    return error;
                }
            }
            return error;
        }

        /** Notes an error at the next token, if none is noted yet. */
        private void note(int found) {
            if (error == 0) {
                error = found;
                errorPosition = tokens.startHere();
            }
        }

        private boolean readBay(Book book, int line) {
            if (line > 0) {
                note(ERROR_LINE);
            }
            tokens.skip();
            int columns = takeNumber(LEAST_SIZE, MOST_SIZE);
            if (columns == NONE || !tokens.take(',')) {
                return false;
            }
            int rows = takeNumber(LEAST_SIZE, MOST_SIZE);
            if (rows == NONE) {
                return false;
            }
            if (error == 0) {
                book.columns = columns;
                book.rows = rows;
            }
            return true;
        }

        private boolean readKettle(Book book) {
            if (book.kettleCount >= MOST_PLACES) {
                note(ERROR_LINE);
            }
            tokens.skip();
            if (!readCell(book, true) || !tokens.take(STEAMS)) {
                return false;
            }
            int steam = takeNumber(1, MOST_STEAM);
            if (steam == NONE) {
                return false;
            }
            if (error == 0) {
                book.addKettle(cellColumn, cellRow, steam);
            }
            return true;
        }

        private boolean readCustoms(Book book) {
            if (book.customsCount >= MOST_PLACES) {
                note(ERROR_LINE);
            }
            tokens.skip();
            if (!readCell(book, true)) {
                return false;
            }
            if (error == 0) {
                book.addCustoms(cellColumn, cellRow);
            }
            return true;
        }

        private boolean readClipper(Book book) {
            if (book.clipperCount >= MOST_CLIPPERS) {
                note(ERROR_LINE);
            }
            tokens.skip();
            long name = tokens.valueHere();
            if (tokens.kindHere() == NAME && book.hasName(name)) {
                note(ERROR_NAME);
            }
            if (!tokens.take(NAME) || !tokens.take(HOME) || !readCell(book, false) || !tokens.take(NOSES)) {
                return false;
            }
            int noses = takeNumber(1, MOST_NOSES);
            int ruleStart = book.rules.count;
            if (noses == NONE || !tokens.take(STEERS) || !ruleReader.readRule(book.rules, 0)) {
                return false;
            }
            if (error == 0) {
                book.addClipper(name, cellColumn, cellRow, noses, ruleStart);
            }
            return true;
        }

        /** Two places may not share a cell, but a home may be anywhere. */
        private boolean readCell(Book book, boolean ofPlace) {
            cellColumn = takeNumber(0, book.columns - 1);
            if (cellColumn == NONE || !tokens.take(',')) {
                return false;
            }
            if (tokens.kindHere() == NUMBER && ofPlace) {
                int row = (int) tokens.valueHere();
                if (book.kettleAt(cellColumn, row) != NONE || book.hasCustomsAt(cellColumn, row)) {
                    note(ERROR_PLACE);
                }
            }
            cellRow = takeNumber(0, book.rows - 1);
            return cellRow != NONE;
        }

        private int takeNumber(int least, int most) {
            if (tokens.kindHere() != NUMBER) {
                return NONE;
            }
            int number = (int) tokens.valueHere();
            if (number < least || number > most) {
                note(ERROR_NUMBER);
            }
            tokens.skip();
            return number;
        }
    }

    /** Reads a clipper's rule. Where it can't, the next token is the one that is no rule's. */
    private static final class RuleReader {
        private static final int LEVEL_OR = 0;
        private static final int LEVEL_AND = 1;
        private static final int LEVEL_COMPARE = 2;
        private static final int LEVEL_SUM = 3;
        private static final int LEVEL_PRODUCT = 4;
        private static final int NO_LEVEL = 5;

        private final Tokens tokens;

        RuleReader(Tokens source) {
            tokens = source;
        }

        private boolean readRule(Rules rules, int depth) {
            if (tokens.kindHere() != IF) {
                return readJoined(rules, LEVEL_OR, depth);
            }
            if (depth >= MOST_DEPTH) {
                return false;
            }
            tokens.skip();
            boolean whole = readRule(rules, depth + 1)
                    && tokens.take(THEN) && readRule(rules, depth + 1)
                    && tokens.take(ELSE) && readRule(rules, depth + 1);
            rules.add(IF, 0);
            return whole;
        }

        /** An either, a both, a compare, a sum or a product: each joins those of the level behind it. */
        private boolean readJoined(Rules rules, int level, int depth) {
            if (level >= NO_LEVEL) {
                return readValue(rules, depth);
            }
            if (!readJoined(rules, level + 1, depth)) {
                return false;
            }
            int mostTimes = level == LEVEL_COMPARE ? 1 : MOST_TOKENS;
            for (int times = 0; times < mostTimes; times++) {
                int sign = tokens.kindHere();
                if (levelOf(sign) != level) {
                    return true;
                }
                tokens.skip();
                if (!readJoined(rules, level + 1, depth)) {
                    return false;
                }
                rules.add(sign, 0);
            }
            return true;
        }

        private boolean readValue(Rules rules, int depth) {
            int kind = tokens.kindHere();
            if (kind == NUMBER || kind >= NORTH && kind <= FORCE) {
                rules.add(kind, kind == NUMBER ? (int) tokens.valueHere() : 0);
                tokens.skip();
                return true;
            }
            if (kind == LEAST || kind == MOST) {
                // With the depth at its most, it is the ( that is too much, not this word.
                tokens.skip();
                boolean whole = depth < MOST_DEPTH && tokens.take('(') && readRule(rules, depth + 1)
                        && tokens.take(',') && readRule(rules, depth + 1) && tokens.take(')');
                rules.add(kind, 0);
                return whole;
            }
            if (depth >= MOST_DEPTH) {
                return false;
            }
            if (kind == '-' || kind == NOT) {
                tokens.skip();
                boolean whole = readValue(rules, depth + 1);
                rules.add(kind == NOT ? NOT : NEGATE, 0);
                return whole;
            }
            return tokens.take('(') && readRule(rules, depth + 1) && tokens.take(')');
        }

        private static int levelOf(int sign) {
            switch (sign) {
                case OR:
                    return LEVEL_OR;
                case AND:
                    return LEVEL_AND;
                case '<':
                case '>':
                case '=':
                    return LEVEL_COMPARE;
                case '+':
                case '-':
                    return LEVEL_SUM;
                case '*':
                case '/':
                case '%':
                    return LEVEL_PRODUCT;
                default:
                    return NO_LEVEL;
            }
        }
    }

    /** Tells a rule's number from the measures of the clipper that it steers. */
    private static final class RuleTeller {
        private final int[] measures;
        private final int[] stack;
        private int height;

        RuleTeller() {
            measures = new int[FORCE - NORTH + 1];
            stack = new int[MOST_TOKENS];
            height = 0;
        }

        void measure(int kind, int value) {
            if (kind >= NORTH && kind <= FORCE) {
                measures[kind - NORTH] = value;
            }
        }

        int number(Rules rules, int start, int end) {
            height = 0;
            for (int step = start; step < end; step++) {
                int kind = step >= 0 && step < rules.count ? rules.kinds[step] : END;
                if (kind == NUMBER) {
                    push(rules.numbers[step]);
                } else if (kind >= NORTH && kind <= FORCE) {
                    push(measures[kind - NORTH]);
                } else if (kind == NEGATE) {
                    push(-pop());
                } else if (kind == NOT) {
                    push(pop() == 0 ? 1 : 0);
                } else if (kind == IF) {
                    int otherwise = pop();
                    int then = pop();
                    push(pop() != 0 ? then : otherwise);
                } else {
                    int right = pop();
                    int left = pop();
                    push(joined(kind, left, right));
                }
            }
            return pop();
        }

        private void push(int number) {
            if (height >= 0 && height < stack.length) {
                stack[height] = number;
                height++;
            }
        }

        private int pop() {
            if (height < 1 || height > stack.length) {
                return 0;
            }
            height--;
            return stack[height];
        }

        private static int joined(int sign, int left, int right) {
            switch (sign) {
                case OR:
                    return left != 0 || right != 0 ? 1 : 0;
                case AND:
                    return left != 0 && right != 0 ? 1 : 0;
                case LEAST:
                    return Math.min(left, right);
                case MOST:
                    return Math.max(left, right);
                case '<':
                    return left < right ? 1 : 0;
                case '>':
                    return left > right ? 1 : 0;
                case '=':
                    return left == right ? 1 : 0;
                case '+':
                    return left + right;
                case '-':
                    return left - right;
                case '*':
                    return left * right;
                case '/':
                    return right == 0 ? 0 : left / right;
                case '%':
                    return right == 0 ? 0 : left % right;
                default:
                    return 0;
            }
        }
    }

    /** How a book's bay stands at some hour. */
    private static final class Bay {
        private final RuleTeller teller;
        private final int[] becalmed;
        private final int[] becalmedBefore;
        private final int[] visits;
        private final int[] column;
        private final int[] row;
        private final int[] leaf;
        private final int[] way;
        private final int[] points;
        private final int[] sips;
        private Book book;
        private int windDirection;
        private int windForce;
        private int hour;

        Bay(Book itsBook, RuleTeller itsTeller) {
            book = itsBook;
            teller = itsTeller;
            becalmed = new int[MOST_PLACES];
            becalmedBefore = new int[MOST_PLACES];
            visits = new int[MOST_PLACES];
            column = new int[MOST_CLIPPERS];
            row = new int[MOST_CLIPPERS];
            leaf = new int[MOST_CLIPPERS];
            way = new int[MOST_CLIPPERS];
            points = new int[MOST_CLIPPERS];
            sips = new int[MOST_CLIPPERS];
        }

        void begin(Book newBook) {
            book = newBook;
            windDirection = 0;
            windForce = 0;
            hour = 0;
            for (int kettle = 0; kettle < MOST_PLACES; kettle++) {
                becalmed[kettle] = 0;
                visits[kettle] = 0;
            }
            for (int clipper = 0; clipper < MOST_CLIPPERS; clipper++) {
                column[clipper] = book.homeColumn[clipper];
                row[clipper] = book.homeRow[clipper];
                leaf[clipper] = 0;
                way[clipper] = 0;
                points[clipper] = 0;
                sips[clipper] = 0;
            }
        }

        void copy(Bay other) {
            book = other.book;
            windDirection = other.windDirection;
            windForce = other.windForce;
            hour = other.hour;
            for (int kettle = 0; kettle < MOST_PLACES; kettle++) {
                becalmed[kettle] = other.becalmed[kettle];
                visits[kettle] = other.visits[kettle];
            }
            for (int clipper = 0; clipper < MOST_CLIPPERS; clipper++) {
                column[clipper] = other.column[clipper];
                row[clipper] = other.row[clipper];
                leaf[clipper] = other.leaf[clipper];
                way[clipper] = other.way[clipper];
                points[clipper] = other.points[clipper];
                sips[clipper] = other.sips[clipper];
            }
        }

        int aroma(int atColumn, int atRow) {
            int fromColumn = atColumn - eastwards(windDirection) * windForce;
            int fromRow = atRow - southwards(windDirection) * windForce;
            int sum = 0;
            for (int kettle = 0; kettle < book.kettleCount; kettle++) {
                if (becalmed[kettle] == 0) {
                    int away = Math.abs(book.kettleColumn[kettle] - fromColumn)
                            + Math.abs(book.kettleRow[kettle] - fromRow);
                    sum += Math.max(0, book.kettleSteam[kettle] - AROMA_LOST_A_CELL * away);
                }
            }
            return sum;
        }

        int steamingKettleAt(int atColumn, int atRow) {
            int kettle = book.kettleAt(atColumn, atRow);
            return kettle != NONE && becalmed[kettle] == 0 ? kettle : NONE;
        }

        boolean isAtHome(int clipper) {
            return column[clipper] == book.homeColumn[clipper] && row[clipper] == book.homeRow[clipper];
        }

        int wayOfAnHour(int clipper) {
            int more = WAY_OF_A_MOVE - leaf[clipper] / LEAF_THAT_SLOWS;
            return windForce == 0 ? more / 2 : more;
        }

        boolean isAhead(int clipper, int other) {
            if (points[clipper] != points[other]) {
                return points[clipper] > points[other];
            }
            return leaf[clipper] > leaf[other];
        }

        int smell(int clipper, int direction) {
            int toColumn = column[clipper] + eastwards(direction);
            int toRow = row[clipper] + southwards(direction);
            if (!book.hasCell(toColumn, toRow)) {
                return 0;
            }
            return Math.min(aroma(toColumn, toRow), SMELL_OF_A_NOSE * book.noses[clipper]);
        }

        int tell(int clipper) {
            int best = 0;
            int mostSmelt = NONE;
            for (int direction = 0; direction < DIRECTIONS; direction++) {
                int smelt = smell(clipper, direction);
                teller.measure(NORTH + direction, smelt);
                if (smelt > mostSmelt) {
                    mostSmelt = smelt;
                    best = direction;
                }
            }
            teller.measure(HERE, aroma(column[clipper], row[clipper]));
            teller.measure(BEST, best);
            teller.measure(LEAF, leaf[clipper]);
            teller.measure(HOUR, hour);
            teller.measure(WIND, windDirection);
            teller.measure(FORCE, windForce);
            return teller.number(book.rules, book.ruleStart[clipper], book.ruleEnd[clipper]);
        }

        /** Answers the points that are won in them. */
        int passHours(int hours) {
            int won = 0;
            for (int passed = 0; passed < hours; passed++) {
                won += passHour();
            }
            return won;
        }

        int passHour() {
            // A kettle that is becalmed in this hour stays so for all of its hours.
            for (int kettle = 0; kettle < book.kettleCount; kettle++) {
                becalmedBefore[kettle] = becalmed[kettle];
            }
            int won = 0;
            for (int clipper = 0; clipper < book.clipperCount; clipper++) {
                won += sailClipper(clipper);
            }
            for (int kettle = 0; kettle < book.kettleCount; kettle++) {
                if (becalmedBefore[kettle] > 0) {
                    becalmed[kettle]--;
                }
            }
            hour++;
            return won;
        }

        private int sailClipper(int clipper) {
            int won = 0;
            way[clipper] += wayOfAnHour(clipper);
            if (way[clipper] >= WAY_OF_A_MOVE) {
                way[clipper] -= WAY_OF_A_MOVE;
                if (moves(clipper, tell(clipper))) {
                    paySip(clipper);
                    won = winAtHome(clipper);
                }
            }
            takeLeaf(clipper);
            return won;
        }

        private boolean moves(int clipper, int told) {
            if (told < 0) {
                return false;
            }
            int toColumn = column[clipper] + eastwards(told % DIRECTIONS);
            int toRow = row[clipper] + southwards(told % DIRECTIONS);
            if (!book.hasCell(toColumn, toRow)) {
                return false;
            }
            column[clipper] = toColumn;
            row[clipper] = toRow;
            return true;
        }

        private void paySip(int clipper) {
            if (book.hasCustomsAt(column[clipper], row[clipper])) {
                leaf[clipper] = Math.max(0, leaf[clipper] - leaf[clipper] / 4 - 1);
                sips[clipper]++;
            }
        }

        private int winAtHome(int clipper) {
            if (!isAtHome(clipper)) {
                return 0;
            }
            int won = leaf[clipper];
            points[clipper] += won;
            leaf[clipper] = 0;
            return won;
        }

        private void takeLeaf(int clipper) {
            int kettle = steamingKettleAt(column[clipper], row[clipper]);
            if (kettle != NONE && leaf[clipper] < MOST_LEAF) {
                leaf[clipper] = Math.min(MOST_LEAF, leaf[clipper] + LEAF_OF_A_VISIT);
                becalmed[kettle] = HOURS_OF_A_VISIT;
                visits[kettle]++;
            }
        }

        private static int eastwards(int direction) {
            return direction == EAST_WARDS ? 1 : direction == WEST_WARDS ? -1 : 0;
        }

        private static int southwards(int direction) {
            return direction == SOUTH_WARDS ? 1 : direction == 0 ? -1 : 0;
        }
    }
}
