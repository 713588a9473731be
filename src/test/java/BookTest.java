/** Promise 4 and "1. The book": what a book is made of, how deep its rules go, and what it replaces. */
public final class BookTest {
    private static final Check check = new Check();
    private static final String CLIPPER = Books.CLIPPER;
    private static final String[] TOKENS = {"bay", "4", ",", "5", ";", "kettle", "1", ",", "2", "steams", "3", ";",
        "customs", "2", ",", "2", ";", "clipper", "rose", "home", "0", ",", "0", "noses", "1", "steers", "if", "(",
        "leaf", ">", "1", "or", "not", "wind", ")", "then", "least", "(", "1", ",", "2", ")", "else", "-", "best", "%",
        "4", ";"};

    public static void main(String[] args) {
        check.sentence("Blanks (32) and line ends (10) can stand anywhere between tokens", BookTest::blanksAnywhere);
        check.sentence("and have to stand between two tokens that would otherwise be read as one",
            BookTest::blanksThatHaveToStand);
        check.sentence("A word: letters a to z, at most 8.", BookTest::words);
        check.sentence("A number: digits, at most 4.", BookTest::numbers);
        check.sentence("The longest possible token is always read.", BookTest::longestToken);
        check.sentence("book = { line ; }", BookTest::bookOfNoLine);
        check.sentence("line = one of these: bay .. kettle .. customs .. clipper ..", BookTest::lines);
        check.sentence("rule = an either, or this: if rule then rule else rule", BookTest::rules);
        check.sentence("What stands in { } can stand there any number of times, also none", BookTest::anyNumberOfTimes);
        check.sentence("what stands in [ ] once or not at all", BookTest::onceOrNot);
        check.sentence("A name is a word that is none of these", BookTest::names);
        check.sentence("Depth. .. It may be at most 6.", BookTest::depth);
        check.sentence("Depth. It is 0 at the beginning of a rule .. and 1 greater between a ( and its )",
            BookTest::depthEndsWithItsRule);
        check.sentence("If it has an error, all stays (but the tape is empty).", BookTest::errorLeavesAll);
        check.sentence("in the place of the one before; all begins anew", BookTest::allBeginsAnew);
        check.sentence("Reads the tape as the book", BookTest::manyBooks);
        check.end();
    }

    private static void error(String text, int error, int position) {
        Books.error(check, text, error, position);
    }

    private static void fine(String text) {
        error(text, 0, -1);
    }

    /** Behind a clipper's steers, closed by a semicolon; the position is from the rule's start. */
    private static void ruleError(String rule, int position) {
        Books.ruleError(check, rule, position);
    }

    private static void ruleFine(String rule) {
        Books.ruleFine(check, rule);
    }

    private static boolean isWord(String token) {
        return token.charAt(0) >= 'a' && token.charAt(0) <= 'z';
    }

    /** The tokens with a blank only between two words, but for the gap of this number, where this stands. */
    private static String joined(int gap, String between) {
        StringBuilder text = new StringBuilder();
        for (int i = 0; i < TOKENS.length; i++) {
            boolean words = i > 0 && isWord(TOKENS[i]) && isWord(TOKENS[i - 1]);
            text.append(i == gap ? between : words ? " " : "").append(TOKENS[i]);
        }
        return text.append(gap == TOKENS.length ? between : "").toString();
    }

    private static void blanksAnywhere() {
        String[] blanks = {" ", "\n", "  ", "\n\n", " \n", "\n "};
        for (String blank : blanks) {
            fine(blank + String.join(blank, TOKENS) + blank);
            for (int gap = 0; gap <= TOKENS.length; gap++) {
                fine(joined(gap, blank));
            }
        }
        fine(joined(-1, ""));
        String[] others = {"\t", "\r", "\u000b", "\f", "\u0000", "\u001f", "!", "\u00a0", "_"};
        for (String other : others) {
            for (int gap = 0; gap <= TOKENS.length; gap++) {
                error(joined(gap, " " + other + " "), 1, joined(gap, "#").indexOf('#') + 1);
            }
        }
    }

    private static void blanksThatHaveToStand() {
        for (int gap = 1; gap < TOKENS.length; gap++) {
            if (isWord(TOKENS[gap]) && isWord(TOKENS[gap - 1])) {
                String text = joined(gap, "");
                check.due("teach of " + text, 1, () -> Books.teach(new TeaRegatta(), text));
            }
        }
        error("clippera home 1,1 noses 1 steers 1;", 1, 0);
        error("clipper ahome 1,1 noses 1 steers 1;", 1, 14);
        error("clipper a home 1,1 noses 1 steersnorth;", 1, 27);
        ruleError("1 or not1and notnot 1", 13);
        ruleError("ifnot 1 then 2 else 3", 0);
        ruleError("if 1 then 2 elsenot 3", 12);
        ruleFine("1or not-1and 2");
        ruleFine("if 1then 2else 3");
        fine("clipper a home1,1noses1steers1;");
        // Two numbers never stand side by side in a book, whatever stands between them.
        error("bay 1 2,4;", 1, 6);
        fine("bay 12,4;");
        ruleError("1 2", 2);
        ruleFine("12");
    }

    private static void words() {
        String letters = "abcdefghijklmnopqrstuvwxyz";
        for (int letter = 0; letter < 26; letter++) {
            fine("clipper " + letters.charAt(letter) + " home 1,1 noses 1 steers 1;");
        }
        for (int length = 1; length <= 8; length++) {
            fine("clipper " + letters.substring(26 - length) + " home 1,1 noses 1 steers 1;");
            fine("clipper " + "z".repeat(length) + " home 1,1 noses 1 steers 1;");
        }
        for (int length = 9; length <= 26; length++) {
            error("clipper " + letters.substring(26 - length) + " home 1,1 noses 1 steers 1;", 1, 8);
            error("clipper " + "z".repeat(length) + " home 1,1 noses 1 steers 1;", 1, 8);
        }
        String[] others = {"A", "Z", "`", "{", "@", "[", "_", "\u00e4"};
        for (String other : others) {
            error("clipper " + other + " home 1,1 noses 1 steers 1;", 1, 8);
            error("clipper ab" + other + " home 1,1 noses 1 steers 1;", 1, 10);
        }
        error("Bay 4,4;", 1, 0);
        error("bAy 4,4;", 1, 0);
        error("ba y 4,4;", 1, 0);
    }

    private static void numbers() {
        for (int digit = 0; digit <= 9; digit++) {
            Books.tells(check, "" + digit, digit);
            Books.tells(check, ("" + digit).repeat(4), digit * 1111);
            ruleError(("" + digit).repeat(5), 0);
        }
        fine("bay 0004,0012;");
        Books.tells(check, "0", 0);
        Books.tells(check, "0000", 0);
        Books.tells(check, "09", 9);
        Books.tells(check, "0010", 10);
        Books.tells(check, "9999", 9999);
        ruleError("10000", 0);
        ruleError("00001", 0);
        ruleError("1234567890", 0);
        ruleError("4294967297", 0);
        ruleError("1:", 1);
        ruleError("1/", 2);
        ruleError("1.5", 1);
    }

    private static void longestToken() {
        fine("bay 12,11;");
        TeaRegatta x = Books.taught("bay 12,11;");
        check.due("12 is one number", 12, x::columns);
        check.due("11 is one number", 11, x::rows);
        error("bay 33,3;", 5, 4);
        error("kettles 1,1 steams 3;", 1, 0);
        error("kettlesteams 1,1 steams 3;", 1, 0);
        error("bayb 4,4;", 1, 0);
        fine("clipper ifthen home 1,1 noses 1 steers 1;");
        fine("clipper bayb home 1,1 noses 1 steers 1;");
        ruleError("notnot 1", 0);
        ruleError("northeast", 0);
        ruleError("leafs", 0);
        ruleError("hour1", 4);
        ruleError("1hour", 1);
        // Not 8 letters and then one more, nor 4 digits and then one more.
        error("clipper abcdefgha home 1,1 noses 1 steers 1;", 1, 8);
        error("bay 00044,4;", 1, 4);
        fine("bay4,4;kettle 0,0steams3;");
    }

    private static void bookOfNoLine() {
        for (String blanks : new String[] {"", " ", "\n", " \n \n", " ".repeat(1600), "\n".repeat(1600)}) {
            fine(blanks);
            TeaRegatta x = Books.taught("bay 4,5;kettle 0,0 steams 3;" + CLIPPER + "1;");
            x.sail(3);
            check.due("teach of no line", 0, () -> Books.teach(x, blanks));
            check.due("what stands behind it", Books.standing(new TeaRegatta()), () -> Books.standing(x));
        }
        error(";", 1, 0);
        error(" \n;", 1, 2);
        fine("bay 4,4;");
        error("bay 4,4;;", 1, 8);
        error("bay 4,4; ;", 1, 9);
    }

    private static void lines() {
        fine("bay 4,4;");
        fine("kettle 1,2 steams 3;");
        fine("customs 1,2;");
        fine(CLIPPER + "1;");
        error("4", 1, 0);
        error("rose", 1, 0);
        error("steams 3;", 1, 0);
        error("bay ,4;", 1, 4);
        error("bay 4 4;", 1, 6);
        error("bay 4;", 1, 5);
        error("bay 4,;", 1, 6);
        error("bay 4,4,", 1, 7);
        error("bay 4,4:", 1, 7);
        error("bay -4,4;", 1, 4);
        error("kettle 1,2;", 1, 10);
        error("kettle a,2 steams 1;", 1, 7);
        error("kettle 1,2 steams;", 1, 17);
        error("kettle 1,2 steams a;", 1, 18);
        error("kettle 1,2 noses 1;", 1, 11);
        error("customs 1;", 1, 9);
        error("customs 1,;", 1, 10);
        error("customs 1,2 steams 3;", 1, 12);
        error("clipper home 1,1 noses 1 steers 1;", 1, 8);
        error("clipper 1 home 1,1 noses 1 steers 1;", 1, 8);
        error("clipper a 1,1 noses 1 steers 1;", 1, 10);
        error("clipper a home 1 noses 1 steers 1;", 1, 17);
        error("clipper a home 1,1 steers 1;", 1, 19);
        error("clipper a home 1,1 noses steers 1;", 1, 25);
        error("clipper a home 1,1 noses 1 1;", 1, 27);
        error("clipper a home 1,1 noses 1 steers;", 1, 33);
    }

    private static void rules() {
        String[] measures = {"north", "east", "south", "west", "here", "best", "leaf", "hour", "wind", "force"};
        for (String measure : measures) {
            ruleFine(measure);
        }
        String[] others = {"bay", "kettle", "steams", "customs", "clipper", "home", "noses", "steers", "then", "else",
            "or", "and", "rose", ";", ",", "<", "=", "+", "*", ")"};
        for (String other : others) {
            ruleError(other, 0);
        }
        for (String sign : new String[] {"+", "-", "*", "/", "%", "<", ">", "=", " or ", " and "}) {
            ruleFine("1" + sign + "2");
            ruleError("1" + sign, 1 + sign.length());
            ruleError("1" + sign + ")", 1 + sign.length());
        }
        ruleFine("1+2-3+4*5/6%7");
        ruleFine("1<2 or 3>4 and 5=6 or 7");
        ruleError("1 not 2", 2);
        ruleFine("not not 1");
        ruleFine("1--2");
        ruleFine("1- - -2*-3");
        ruleFine("-not-1");
        ruleError("1+if 1 then 2 else 3", 2);
        ruleFine("1+(if 1 then 2 else 3)");
        ruleFine("if 1 then if 2 then 3 else 4 else 5 or 6");
        ruleError("if 1 then 2", 11);
        ruleError("if 1 else 2", 5);
        ruleError("if then 1 else 2", 3);
        ruleError("if 1 then else 2", 10);
        ruleError("if 1 then 2 else", 16);
        ruleError("not if 1 then 2 else 3", 4);
        ruleError("()", 1);
        ruleError("(1", 2);
        ruleError("(1))", 3);
        ruleFine("least(1,2)");
        ruleFine("most(if 1 then 2 else 3,1 or 2)");
        ruleError("least 1,2", 6);
        ruleError("least(1)", 7);
        ruleError("least(1,2,3)", 9);
        ruleError("least(1,)", 8);
        ruleError("most(,1)", 5);
        ruleError("most(1,2", 8);
        ruleError("1 2", 2);
        ruleError("1 north", 2);
    }

    /** Each of the { } of the grammar: lines, or, and, + -, * / %. */
    private static void anyNumberOfTimes() {
        StringBuilder lines = new StringBuilder("bay 6,6;");
        for (int number = 0; number < 6; number++) {
            lines.append("kettle ").append(number).append(",0 steams 1;customs ").append(number).append(",1;");
            lines.append("clipper ").append((char) ('a' + number)).append(" home 0,0 noses 1 steers 1;");
            fine(lines.toString());
        }
        for (int times : new int[] {0, 1, 2, 3, 50, 194}) {
            Books.tells(check, "1" + "+1".repeat(times), 1 + times);
            Books.tells(check, "9" + "-1".repeat(times), 9 - times);
            Books.tells(check, "9" + "*1".repeat(times), 9);
            Books.tells(check, "9" + "/1".repeat(times), 9);
            Books.tells(check, "9" + "%5".repeat(times), times == 0 ? 9 : 4);
            Books.tells(check, "0" + " or 0".repeat(times), 0);
            Books.tells(check, "0" + " or 3".repeat(times), times == 0 ? 0 : 1);
            Books.tells(check, "3" + " and 3".repeat(times), times == 0 ? 3 : 1);
        }
        Books.tells(check, "0" + " or 0".repeat(193) + " or 1", 1);
        Books.tells(check, "3" + " and 3".repeat(193) + " and 0", 0);
    }

    private static void onceOrNot() {
        String[] signs = {"<", ">", "="};
        Books.tells(check, "7", 7);
        for (String sign : signs) {
            ruleFine("1" + sign + "2");
            ruleFine("1+1" + sign + "2*2 and 1" + sign + "2 or 1" + sign + "2");
            ruleError("1" + sign, 2);
            for (String second : signs) {
                ruleError("1" + sign + second + "2", 2);
                ruleError("1" + sign + "2" + second + "3", 3);
                ruleError("1+2" + sign + "3+4" + second + "5", 7);
                ruleFine("(1" + sign + "2)" + second + "3");
                ruleFine("1" + sign + "(2" + second + "3)");
            }
        }
    }

    private static void names() {
        for (String word : Books.WORDS) {
            error("clipper " + word + " home 1,1 noses 1 steers 1;", 1, 8);
            fine("clipper " + word + "x home 1,1 noses 1 steers 1;");
            fine("clipper x" + word + " home 1,1 noses 1 steers 1;");
            fine("clipper " + word.substring(0, word.length() - 1) + " home 1,1 noses 1 steers 1;");
        }
        fine("clipper rose home 1,1 noses 1 steers 1;");
        fine("clipper nosess home 1,1 noses 1 steers 1;");
        error("clipper 5 home 1,1 noses 1 steers 1;", 1, 8);
        error("clipper home home 1,1 noses 1 steers 1;", 1, 8);
    }

    private static void depth() {
        ruleFine("((((((1))))))");
        ruleError("(((((((1)))))))", 6);
        ruleFine("------1");
        ruleError("-------1", 6);
        ruleFine("1-------1");
        ruleError("1--------1", 8);
        ruleFine("not not not not not not 1");
        ruleError("not not not not not not not 1", 24);
        String chain = "if 1 then 2 else ";
        ruleFine(chain.repeat(6) + "3");
        ruleError(chain.repeat(7) + "3", 6 * chain.length());
        ruleFine("if if if if if if 1 then 1 else 1" + " then 1 else 1".repeat(5));
        ruleError("if if if if if if if 1 then 1 else 1" + " then 1 else 1".repeat(6), 18);
        ruleFine("if 1 then ".repeat(6) + "1" + " else 2".repeat(6));
        ruleError("if 1 then ".repeat(7) + "1" + " else 2".repeat(7), 60);
        ruleFine("least(".repeat(6) + "1" + ",2)".repeat(6));
        ruleError("least(".repeat(7) + "1" + ",2)".repeat(7), 41);
        ruleFine("most(1,".repeat(6) + "2" + ")".repeat(6));
        ruleError("most(1,".repeat(7) + "2" + ")".repeat(7), 46);
        ruleFine("-(not(-(1)))");
        ruleError("-(not(-(not 1)))", 8);
        ruleFine("(((((least(1,2))))))");
        ruleError("((((((least(1,2)))))))", 11);
        ruleError("((((((most(1,2)))))))", 10);
        ruleError("((((((least 1))))))", 12);
        ruleError("((((((-1))))))", 6);
        ruleFine("(((((-1)))))");
        ruleError("((((((not 1))))))", 6);
        ruleFine("(((((not 1)))))");
        ruleError("((((((if 1 then 2 else 3))))))", 6);
        ruleFine("(((((if 1 then 2 else 3)))))");
        ruleError(chain.repeat(5) + "if (1) then 2 else 3", 5 * chain.length() + 3);
        ruleError(chain.repeat(5) + "if 1 then ((2)) else 3", 5 * chain.length() + 10);
        ruleError(chain.repeat(5) + "if 1 then 2 else -3", 5 * chain.length() + 17);
    }

    private static void depthEndsWithItsRule() {
        ruleFine("-1 + (((((-1)))))");
        ruleError("-1 + ((((((-1))))))", 11);
        ruleFine("((((((1+2-3))))))-((((((4))))))");
        ruleError("((((((1+2-3))))))-(((((((4)))))))", 24);
        ruleFine("------1*------1*------1");
        ruleError("------1*------1*-------1", 22);
        ruleFine("least(" + "(".repeat(5) + "1" + ")".repeat(5) + ",-----2)");
        ruleError("least(" + "(".repeat(5) + "1" + ")".repeat(5) + ",------2)", 23);
        ruleFine("if -----1 then (((((2))))) else not not not not not 3");
        ruleError("if -----1 then (((((2))))) else not not not not not not 3", 52);
        ruleFine("------1;clipper b home 1,1 noses 1 steers ------1;clipper c home 1,1 noses 1 steers ((((((2))))))");
        ruleError("------1;clipper b home 1,1 noses 1 steers -------1", 48);
    }

    private static void errorLeavesAll() {
        TeaRegatta x = Books.taught("bay 5,3;kettle 0,0 steams 9;customs 2,2;clipper a home 0,0 noses 2 steers 1;");
        x.setWind(2, 3);
        x.sail(7);
        x.calmKettle(0, 11);
        long digest = x.digest();
        String[] books = {"bay 9,9;x", "bay 9,9;clipper a home 1,1 noses 1 steers 1;clipper a home 1,1 noses 1 steers 1;",
            "bay 9,9;customs 8,8;customs 8,8;", "bay 9,9;bay 8,8;", "bay 9,9;kettle 1,1 steams 5;customs 9,9;"};
        for (int error = 1; error <= 5; error++) {
            String book = books[error - 1];
            check.due("teach of " + book, error, () -> Books.teach(x, book));
            check.due("digest behind it", digest, x::digest);
            check.due("customs behind it", true, () -> x.hasCustoms(2, 2));
            check.due("no cell 8,8 behind it", Books.OUT_OF_BOUNDS, () -> x.hasCustoms(8, 8));
            check.due("home behind it", false, () -> x.isHome(0));
            check.due("the tape behind it", Books.ARGUMENT, () -> x.trim(1));
        }
        check.due("columns", 5, x::columns);
        check.due("hour", 7, x::hour);
        check.due("rule", 1, () -> x.ruleTells(0));
    }

    private static void allBeginsAnew() {
        String book = "bay 3,3;kettle 2,0 steams 9;customs 1,0;clipper a home 0,0 noses 2 steers if leaf then 3 else 1;";
        TeaRegatta fresh = Books.taught(book);
        TeaRegatta x = Books.taught(book);
        x.setWind(2, 3);
        x.sail(8);
        x.calmKettle(0, 11);
        check.due("points ahead of it", true, () -> x.pointsOf(0) > 0);
        check.due("sips ahead of it", true, () -> x.sipsOf(0) > 0);
        check.due("visits ahead of it", true, () -> x.visitsTo(0) > 0);
        check.due("leaf ahead of it", true, () -> x.leafOf(0) > 0);
        check.due("way ahead of it", true, () -> x.wayOf(0) > 0);
        check.due("teach", 0, () -> Books.teach(x, book));
        check.due("hour", 0, x::hour);
        check.due("windDirection", 0, x::windDirection);
        check.due("windForce", 0, x::windForce);
        check.due("becalmedFor", 0, () -> x.becalmedFor(0));
        check.due("visitsTo", 0, () -> x.visitsTo(0));
        check.due("columnOf", 0, () -> x.columnOf(0));
        check.due("leafOf", 0, () -> x.leafOf(0));
        check.due("wayOf", 0, () -> x.wayOf(0));
        check.due("pointsOf", 0, () -> x.pointsOf(0));
        check.due("sipsOf", 0, () -> x.sipsOf(0));
        check.due("digest", fresh.digest(), x::digest);
        check.due("teach", 0, () -> Books.teach(x, "kettle 5,5 steams 2;"));
        check.due("the customs of the book before are gone", false, () -> x.hasCustoms(1, 0));
        check.due("the kettle of the book before is gone", false, () -> x.hasSteam(2, 0));
        check.due("kettles", 1, x::kettles);
        check.due("clippers", 0, x::clippers);
        check.due("columns", 6, x::columns);
        check.due("teach of nothing", 0, x::teach);
        check.due("kettles", 0, x::kettles);
        check.due("digest", new TeaRegatta().digest(), x::digest);
    }

    /** What one book fills, the next one has anew. */
    private static void manyBooks() {
        TeaRegatta x = new TeaRegatta();
        for (int times = 1; times <= 9; times++) {
            int number = times;
            check.due("teach", 0, () -> Books.teach(x, CLIPPER + number + "+1".repeat(190) + ";"));
            check.due("ruleTells of book " + number, number + 190, () -> x.ruleTells(0));
        }
    }
}
