/** Promises 4 and 5: which books have which error, and where; and what a book with one leaves. */
public final class BookTest {
    private static final Check check = new Check();
    private static final String CLIPPER = "clipper a home 1,1 noses 1 steers ";

    public static void main(String[] args) {
        tokens();
        lines();
        rules();
        depth();
        countOfTokens();
        names();
        sharedCells();
        tooManyLines();
        numbers();
        firstErrorIsTold();
        errorLeavesAll();
        allBeginsAnew();
        manyBooks();
        check.end();
    }

    private static void error(String text, int error, int position) {
        TeaRegatta x = new TeaRegatta();
        Books.feed(x, 0, text);
        check.due("teach of " + text, error, x::teach);
        check.due("errorAt of " + text, position, x::errorAt);
    }

    private static void fine(String text) {
        error(text, 0, -1);
    }

    /** Behind a clipper's steers, closed by a semicolon; the position is from the rule's start. */
    private static void ruleError(String rule, int position) {
        error(CLIPPER + rule + ";", 1, CLIPPER.length() + position);
    }

    private static void ruleFine(String rule) {
        fine(CLIPPER + rule + ";");
    }

    private static void tokens() {
        fine("");
        fine(" \n \n");
        fine("bay4,4;kettle 0,0steams3;");
        fine("\nbay\n4\n,\n4\n;\n");
        fine("bay 0004,0012;");
        error("bay 00004,4;", 1, 4);
        error("bay 4 4;", 1, 6);
        error("ba y 4,4;", 1, 0);
        error("bay 1 2,4;", 1, 6);
        error("Bay 4,4;", 1, 0);
        error("bay\t4,4;", 1, 3);
        error("bay 4,4;\r", 1, 8);
        error("bay 4,4:", 1, 7);
        error("bay 4,4;\u00e9", 1, 8);
        fine("clipper abcdefgh home 1,1 noses 1 steers 1;");
        error("clipper abcdefghi home 1,1 noses 1 steers 1;", 1, 8);
        error("kettles 1,1 steams 3;", 1, 0);
        error("kettlesteams 1,1 steams 3;", 1, 0);
        error("bay 4,4", 1, 7);
        error("bay 4,4  \n", 1, 10);
        error("bay 4,", 1, 6);
    }

    private static void lines() {
        fine("bay 4,4;");
        fine("kettle 1,2 steams 3;");
        fine("customs 1,2;");
        fine(CLIPPER + "1;");
        error(";", 1, 0);
        error("bay 4,4;;", 1, 8);
        error("4", 1, 0);
        error("rose", 1, 0);
        error("steams 3;", 1, 0);
        error("bay ,4;", 1, 4);
        error("bay 4;", 1, 5);
        error("bay 4,;", 1, 6);
        error("bay 4,4,", 1, 7);
        error("bay -4,4;", 1, 4);
        error("kettle 1,2;", 1, 10);
        error("kettle a,2 steams 1;", 1, 7);
        error("kettle 1,2 steams;", 1, 17);
        error("kettle 1,2 steams a;", 1, 18);
        error("kettle 1,2 noses 1;", 1, 11);
        error("customs 1;", 1, 9);
        error("customs 1,;", 1, 10);
        error("customs 1,2 steams 3;", 1, 12);
        error("clipper home 1,1 noses 1 steers 1;", 1, 8);
        error("clipper 1 home 1,1 noses 1 steers 1;", 1, 8);
        error("clipper a 1,1 noses 1 steers 1;", 1, 10);
        error("clipper a home 1 noses 1 steers 1;", 1, 17);
        error("clipper a home 1,1 steers 1;", 1, 19);
        error("clipper a home 1,1 noses steers 1;", 1, 25);
        error("clipper a home 1,1 noses 1 1;", 1, 27);
        error("clipper a home 1,1 noses 1 steers;", 1, 33);
    }

    private static void rules() {
        String[] measures = {"north", "east", "south", "west", "here", "best", "leaf", "hour", "wind", "force"};
        for (String measure : measures) {
            ruleFine(measure);
        }
        String[] others = {"bay", "kettle", "steams", "customs", "clipper", "home", "noses", "steers", "then", "else",
            "or", "and", "rose", ";", ",", "<", "=", "+", "*", ")"};
        for (String other : others) {
            ruleError(other, 0);
        }
        for (String sign : new String[] {"+", "-", "*", "/", "%", "<", ">", "=", " or ", " and "}) {
            ruleFine("1" + sign + "2");
            ruleError("1" + sign, 1 + sign.length());
            ruleError("1" + sign + ")", 1 + sign.length());
        }
        ruleFine("1+2-3+4*5/6%7");
        ruleFine("1<2 or 3>4 and 5=6 or 7");
        ruleError("1<2<3", 3);
        ruleError("1=2>3", 3);
        ruleError("1+2=3+4=5", 7);
        ruleFine("(1<2)<3");
        ruleError("1 not 2", 2);
        ruleFine("not not 1");
        ruleFine("1--2");
        ruleFine("1- - -2*-3");
        ruleFine("-not-1");
        ruleError("1+if 1 then 2 else 3", 2);
        ruleFine("1+(if 1 then 2 else 3)");
        ruleFine("if 1 then if 2 then 3 else 4 else 5 or 6");
        ruleError("if 1 then 2", 11);
        ruleError("if 1 else 2", 5);
        ruleError("if then 1 else 2", 3);
        ruleError("if 1 then else 2", 10);
        ruleError("if 1 then 2 else", 16);
        ruleError("not if 1 then 2 else 3", 4);
        ruleError("()", 1);
        ruleError("(1", 2);
        ruleError("(1))", 3);
        ruleFine("least(1,2)");
        ruleFine("most(if 1 then 2 else 3,1 or 2)");
        ruleError("least 1,2", 6);
        ruleError("least(1)", 7);
        ruleError("least(1,2,3)", 9);
        ruleError("least(1,)", 8);
        ruleError("most(,1)", 5);
        ruleError("most(1,2", 8);
        ruleError("1 2", 2);
        ruleError("1 north", 2);
    }

    private static void depth() {
        ruleFine("((((((1))))))");
        ruleError("(((((((1)))))))", 6);
        ruleFine("------1");
        ruleError("-------1", 6);
        ruleFine("1-------1");
        ruleError("not not not not not not not 1", 24);
        ruleFine("not not not not not not 1");
        ruleFine("-(not(-(1)))");
        ruleError("-(not(-(not 1)))", 8);
        ruleFine("-1 + (((((-1)))))");
        ruleFine("((((((1+2-3))))))-((((((4))))))");
        ruleFine("least(" + "(".repeat(5) + "1" + ")".repeat(5) + ",-----2)");
        ruleFine("(((((least(1,2))))))");
        ruleError("((((((least(1,2)))))))", 11);
        ruleError("((((((most(1,2)))))))", 10);
        ruleError("((((((least 1))))))", 12);
        ruleError("((((((-1))))))", 6);
        ruleError("((((((not 1))))))", 6);
        ruleError("((((((if 1 then 2 else 3))))))", 6);
        ruleFine("(((((if 1 then 2 else 3)))))");
        String chain = "if 1 then 2 else ";
        ruleFine(chain.repeat(6) + "3");
        ruleError(chain.repeat(7) + "3", 6 * chain.length());
        ruleFine("if if if if if if 1 then 1 else 1" + " then 1 else 1".repeat(5));
        ruleError("if if if if if if if 1 then 1 else 1" + " then 1 else 1".repeat(6), 18);
        ruleFine("if 1 then ".repeat(6) + "1" + " else 2".repeat(6));
        ruleError("if 1 then ".repeat(7) + "1" + " else 2".repeat(7), 60);
        ruleFine("least(".repeat(6) + "1" + ",2)".repeat(6));
        ruleError("least(".repeat(7) + "1" + ",2)".repeat(7), 41);
        ruleFine("most(1,".repeat(6) + "2" + ")".repeat(6));
        ruleError("most(1,".repeat(7) + "2" + ")".repeat(7), 46);
        ruleError(chain.repeat(5) + "if (1) then 2 else 3", 5 * chain.length() + 3);
        ruleError(chain.repeat(5) + "if 1 then ((2)) else 3", 5 * chain.length() + 10);
        ruleError(chain.repeat(5) + "if 1 then 2 else -3", 5 * chain.length() + 17);
    }

    private static void countOfTokens() {
        // 9 tokens ahead of the rule, 390 in it, so that the ; is the 400th.
        String most = CLIPPER + "-1" + "+1".repeat(194);
        fine(most + "; ");
        error(most, 1, most.length());
        error(most + "+1;", 1, most.length() + 1);
        error(most + ";;", 1, most.length() + 1);
        error(most + "; bay 4,4;", 1, most.length() + 2);
        error(most + ";customs", 1, most.length() + 1);
        error(most + ";\u0000", 1, most.length() + 1);
        error(most + "+", 1, most.length() + 1);
        String lines = "customs 1,1;".repeat(80);
        error(lines, 3, 22);
        error(lines + " ;", 1, lines.length() + 1);
        error(lines + " bay", 1, lines.length() + 1);
    }

    private static void names() {
        String b = "clipper b home 1,1 noses 1 steers 1;";
        fine(CLIPPER + "1;" + b);
        error(b + b, 2, b.length() + 8);
        error(b + CLIPPER + "1;" + b, 2, b.length() + CLIPPER.length() + 2 + 8);
        error("clipper abcdefgh home 1,1 noses 1 steers 1;clipper abcdefgh home 9,1 noses 1 steers 1;", 2, 51);
        fine("clipper abcdefgh home 1,1 noses 1 steers 1;clipper bbcdefgh home 1,1 noses 1 steers 1;");
        fine("clipper a home 1,1 noses 1 steers 1;clipper aa home 1,1 noses 1 steers 1;");
        String[] words = {"bay", "kettle", "steams", "customs", "clipper", "home", "noses", "steers", "if", "then",
            "else", "or", "and", "not", "least", "most", "north", "east", "south", "west", "here", "best", "leaf",
            "hour", "wind", "force"};
        for (String word : words) {
            error("clipper " + word + " home 1,1 noses 1 steers 1;", 1, 8);
            fine("clipper " + word + "x home 1,1 noses 1 steers 1;");
            fine("clipper x" + word + " home 1,1 noses 1 steers 1;");
            fine("clipper " + word.substring(0, word.length() - 1) + " home 1,1 noses 1 steers 1;");
        }
    }

    private static void sharedCells() {
        fine("kettle 1,2 steams 3;kettle 2,1 steams 3;customs 1,1;customs 2,2;");
        error("kettle 1,2 steams 3;kettle 1,2 steams 4;", 3, 29);
        error("kettle 1,2 steams 3;customs 1,2;", 3, 30);
        error("customs 1,2;kettle 1,2 steams 3;", 3, 21);
        error("customs 1,2;customs 1,2;", 3, 22);
        error("customs 1,2;customs 2,1;customs 01,002;", 3, 35);
        fine("kettle 1,2 steams 3;clipper a home 1,2 noses 1 steers 1;clipper b home 1,2 noses 1 steers 1;");
        fine("clipper a home 1,2 noses 1 steers 1;kettle 1,2 steams 3;");
        fine("customs 1,2;clipper a home 1,2 noses 1 steers 1;");
    }

    private static void tooManyLines() {
        StringBuilder kettles = new StringBuilder();
        StringBuilder customs = new StringBuilder();
        StringBuilder clippers = new StringBuilder();
        for (int i = 0; i < 6; i++) {
            kettles.append("kettle ").append(i).append(",0 steams 1;");
            customs.append("customs ").append(i).append(",1;");
            clippers.append("clipper ").append((char) ('a' + i)).append(" home 0,0 noses 1 steers 1;");
        }
        String all = "" + kettles + customs + clippers;
        fine(all);
        error(all + "kettle 0,5 steams 1;", 4, all.length());
        error(all + "customs 0,5;", 4, all.length());
        error(all + "clipper z home 0,0 noses 1 steers 1;", 4, all.length());
        error(all + "clipper a home 9,0 noses 9 steers 1;", 4, all.length());
        error(all + "kettle 0,0 steams 99;", 4, all.length());
        error("bay 4,4;bay 4,4;", 4, 8);
        error("customs 1,1;bay 4,4;", 4, 12);
        error("bay 4,4;customs 1,1; bay 99,4;", 4, 21);
        error(all + "kettle 0,5 steams 1;".repeat(3) + "clipper z home 0,0 noses 1 steers 1;", 4, all.length());
    }

    private static void numbers() {
        fine("bay 3,3;");
        fine("bay 12,12;");
        error("bay 2,3;", 5, 4);
        error("bay 3,2;", 5, 6);
        error("bay 13,3;", 5, 4);
        error("bay 3,13;", 5, 6);
        error("bay 0,0;", 5, 4);
        error("bay 9999,3;", 5, 4);
        fine("kettle 5,5 steams 30;");
        fine("kettle 0,0 steams 1;");
        error("kettle 6,5 steams 30;", 5, 7);
        error("kettle 5,6 steams 30;", 5, 9);
        error("kettle 5,5 steams 0;", 5, 18);
        error("kettle 5,5 steams 31;", 5, 18);
        fine("bay 3,7;kettle 2,6 steams 3;");
        error("bay 3,7;kettle 3,6 steams 3;", 5, 15);
        error("bay 3,7;kettle 2,7 steams 3;", 5, 17);
        fine("bay 7,3;customs 6,2;");
        error("bay 7,3;customs 7,2;", 5, 16);
        error("bay 7,3;customs 6,3;", 5, 18);
        error("customs 6,0;", 5, 8);
        error("customs 0,6;", 5, 10);
        fine("bay 12,12;clipper a home 11,11 noses 4 steers 1;");
        error("bay 12,12;clipper a home 12,11 noses 4 steers 1;", 5, 25);
        error("bay 12,12;clipper a home 11,12 noses 4 steers 1;", 5, 28);
        error("clipper a home 1,1 noses 0 steers 1;", 5, 25);
        error("clipper a home 1,1 noses 5 steers 1;", 5, 25);
        fine("clipper a home 1,1 noses 0004 steers 9999;");
        // The bay has 6 columns as long as no line has told otherwise.
        error("customs 7,1;bay 9,9;", 5, 8);
    }

    private static void firstErrorIsTold() {
        error("bay 2,2;kettle 9,9 steams 99;", 5, 4);
        error("kettle 1,1 steams 99;kettle 1,1 steams 99;", 5, 18);
        error("kettle 1,1 steams 9;kettle 1,1 steams 99;", 3, 29);
        error("kettle 1,1 steams 99", 1, 20);
        error("bay 2,2;bay 2,2", 1, 15);
        error("customs 1,1;customs 1,1;clipper", 1, 31);
        error("bay 99999,2;", 1, 4);
        error("bay 99,2;abcdefghi", 1, 9);
        error("clipper a home 1,1 noses 9 steers (1;", 1, 36);
    }

    private static void errorLeavesAll() {
        TeaRegatta x = Books.taught("bay 5,3;kettle 0,0 steams 9;customs 2,2;clipper a home 0,0 noses 2 steers 1;");
        x.setWind(2, 3);
        x.sail(7);
        x.calmKettle(0, 11);
        long digest = x.digest();
        String[] books = {"bay 9,9;x", "bay 9,9;clipper a home 1,1 noses 1 steers 1;clipper a home 1,1 noses 1 steers 1;",
            "bay 9,9;customs 8,8;customs 8,8;", "bay 9,9;bay 8,8;", "bay 9,9;kettle 1,1 steams 5;customs 9,9;"};
        for (int error = 1; error <= 5; error++) {
            String book = books[error - 1];
            check.due("teach of " + book, error, () -> Books.teach(x, book));
            check.due("digest behind it", digest, x::digest);
            check.due("customs behind it", true, () -> x.hasCustoms(2, 2));
            check.due("no cell 8,8 behind it", Books.OUT_OF_BOUNDS, () -> x.hasCustoms(8, 8));
            check.due("home behind it", false, () -> x.isHome(0));
        }
        check.due("columns", 5, x::columns);
        check.due("hour", 7, x::hour);
        check.due("rule", 1, () -> x.ruleTells(0));
    }

    private static void allBeginsAnew() {
        String book = "bay 3,3;kettle 2,0 steams 9;customs 1,0;clipper a home 0,0 noses 2 steers if leaf then 3 else 1;";
        TeaRegatta fresh = Books.taught(book);
        TeaRegatta x = Books.taught(book);
        x.setWind(2, 3);
        x.sail(8);
        x.calmKettle(0, 11);
        check.due("points ahead of it", true, () -> x.pointsOf(0) > 0);
        check.due("sips ahead of it", true, () -> x.sipsOf(0) > 0);
        check.due("visits ahead of it", true, () -> x.visitsTo(0) > 0);
        check.due("leaf ahead of it", true, () -> x.leafOf(0) > 0);
        check.due("way ahead of it", true, () -> x.wayOf(0) > 0);
        check.due("teach", 0, () -> Books.teach(x, book));
        check.due("hour", 0, x::hour);
        check.due("windDirection", 0, x::windDirection);
        check.due("windForce", 0, x::windForce);
        check.due("becalmedFor", 0, () -> x.becalmedFor(0));
        check.due("visitsTo", 0, () -> x.visitsTo(0));
        check.due("columnOf", 0, () -> x.columnOf(0));
        check.due("leafOf", 0, () -> x.leafOf(0));
        check.due("wayOf", 0, () -> x.wayOf(0));
        check.due("pointsOf", 0, () -> x.pointsOf(0));
        check.due("sipsOf", 0, () -> x.sipsOf(0));
        check.due("digest", fresh.digest(), x::digest);
        check.due("teach", 0, () -> Books.teach(x, "kettle 5,5 steams 2;"));
        check.due("the customs of the book before are gone", false, () -> x.hasCustoms(1, 0));
        check.due("the kettle of the book before is gone", false, () -> x.hasSteam(2, 0));
        check.due("kettles", 1, x::kettles);
        check.due("clippers", 0, x::clippers);
        check.due("columns", 6, x::columns);
        check.due("teach of nothing", 0, x::teach);
        check.due("kettles", 0, x::kettles);
        check.due("digest", new TeaRegatta().digest(), x::digest);
    }

    /** What one book fills, the next one has anew. */
    private static void manyBooks() {
        TeaRegatta x = new TeaRegatta();
        for (int times = 1; times <= 9; times++) {
            int number = times;
            check.due("teach", 0, () -> Books.teach(x, CLIPPER + number + "+1".repeat(190) + ";"));
            check.due("ruleTells of book " + number, number + 190, () -> x.ruleTells(0));
        }
    }
}
