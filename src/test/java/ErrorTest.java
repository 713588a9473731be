/** "Errors": each kind of error just within and just beyond its bounds, its position, and which one is told. */
public final class ErrorTest {
    private static final Check check = new Check();
    private static final String CLIPPER = Books.CLIPPER;
    private static final String KETTLES = sixLines("kettle #,0 steams 1;");
    private static final String CUSTOMS = sixLines("customs #,1;");
    private static final String CLIPPERS = sixLines("clipper @ home 0,0 noses 1 steers 1;");

    public static void main(String[] args) {
        check.sentence("a byte with which no token begins", ErrorTest::bytes);
        check.sentence("a word that is too long", ErrorTest::longWords);
        check.sentence("a number that is too long", ErrorTest::longNumbers);
        check.sentence("the end of the tape (at its length)", ErrorTest::endOfTheTape);
        check.sentence("the (, -, not or if behind which the depth would be 7", ErrorTest::depthOfSeven);
        check.sentence("the token that would be the 401st", ErrorTest::token401);
        check.sentence("(the end of the tape is not counted)", ErrorTest::endIsNotCounted);
        check.sentence("The position is that of its first byte.", ErrorTest::positions);
        check.sentence("Only if there is no error 1, the tokens are looked at", ErrorTest::errorOneIsToldFirst);
        check.sentence("from left to right, and the first error is told, at its token", ErrorTest::firstIsTold);
        check.sentence("of errors at one token the one with the smallest number", ErrorTest::smallestNumberOfOneToken);
        check.sentence("Error 2: a clipper gets a name that a clipper ahead of it has.", ErrorTest::names);
        check.sentence("Error 3: .. that of a cell that has one of both already, as told ahead.", ErrorTest::cells);
        check.sentence("Error 4: the word kettle of the 7th kettle", ErrorTest::kettles);
        check.sentence("Error 4: customs of the 7th customs", ErrorTest::customs);
        check.sentence("Error 4: clipper of the 7th clipper", ErrorTest::clippers);
        check.sentence("Error 4: the word bay of a line that is not the first one", ErrorTest::bays);
        check.sentence("Error 5: the numbers of bay are not 3 to 12", ErrorTest::sizes);
        check.sentence("Error 5: the numbers behind kettle, customs or home not those of a column and a row",
            ErrorTest::columnsAndRows);
        check.sentence("Error 5: that behind steams is not 1 to 30", ErrorTest::steams);
        check.sentence("Error 5: that behind noses not 1 to 4", ErrorTest::noses);
        check.sentence("The bay has as many columns and rows as its line says, 6 and 6 without one.",
            ErrorTest::sizeOfTheBay);
        check.end();
    }

    /** Six lines, with the numbers 0 to 5 for # and the names a to f for @. */
    private static String sixLines(String line) {
        StringBuilder lines = new StringBuilder();
        for (int number = 0; number < 6; number++) {
            lines.append(line.replace('#', (char) ('0' + number)).replace('@', (char) ('a' + number)));
        }
        return lines.toString();
    }

    private static void error(String text, int error, int position) {
        Books.error(check, text, error, position);
    }

    private static void fine(String text) {
        error(text, 0, -1);
    }

    /** The position is given by a mark in the text, which is left out. */
    private static void errorAtMark(String text, int error) {
        int mark = text.indexOf('#');
        error(text.substring(0, mark) + text.substring(mark + 1), error, mark);
    }

    private static boolean isBlank(int sign) {
        return sign == 32 || sign == 10;
    }

    private static void bytes() {
        for (int sign = 0; sign < 256; sign++) {
            boolean digit = sign >= '0' && sign <= '9';
            boolean letter = sign >= 'a' && sign <= 'z';
            // A name may be any letter, and what stands between two numbers a digit or a sign.
            String named = "bay 4,4;clipper " + (char) sign + " home 1,1 noses 1 steers 1;";
            error(named, letter ? 0 : 1, letter ? -1 : isBlank(sign) ? 18 : 16);
            boolean joins = digit || "<>=+-*/%".indexOf(sign) >= 0;
            int wrong = CLIPPER.length() + (isBlank(sign) || sign == ';' ? 2 : 1);
            error(CLIPPER + "1" + (char) sign + "1;", joins ? 0 : 1, joins ? -1 : wrong);
            error((char) sign + "bay 4,4;", isBlank(sign) ? 0 : 1, isBlank(sign) ? -1 : 0);
            error("bay 4,4;" + (char) sign, isBlank(sign) ? 0 : 1, isBlank(sign) ? -1 : 8);
        }
        error("bay\t4,4;", 1, 3);
        error("bay 4,4;\r", 1, 8);
        error("bay 4,4.5;", 1, 7);
        error("bay 4,4;\u00e9", 1, 8);
    }

    private static void longWords() {
        fine("clipper abcdefgh home 1,1 noses 1 steers 1;");
        error("clipper abcdefghi home 1,1 noses 1 steers 1;", 1, 8);
        error("clipper abcdefghij home 1,1 noses 1 steers 1;", 1, 8);
        error("abcdefghi", 1, 0);
        error("customsab 1,1;", 1, 0);
        error("kettle 1,1 steamssss 3;", 1, 11);
        error("clipper a homehomeh 1,1 noses 1 steers 1;", 1, 10);
        error(CLIPPER + "northeast;", 1, CLIPPER.length());
        error(CLIPPER + "1 " + "o".repeat(1000) + ";", 1, CLIPPER.length() + 2);
        error("z".repeat(1600), 1, 0);
    }

    /** Each place where a number stands, with a number of 4 digits and one of 5. */
    private static void longNumbers() {
        String[] books = {"bay #4,4;", "bay 4,#4;", "kettle #4,4 steams 4;", "kettle 4,#4 steams 4;",
            "kettle 4,4 steams #4;", "customs #4,4;", "customs 4,#4;", "clipper a home #4,4 noses 4 steers 4;",
            "clipper a home 4,#4 noses 4 steers 4;", "clipper a home 4,4 noses #4 steers 4;",
            "clipper a home 4,4 noses 4 steers #4;"};
        for (String book : books) {
            fine(book.replace("#", ""));
            fine(book.replace("#", "000"));
            errorAtMark(book.replace("#", "#0000"), 1);
            errorAtMark(book.replace("#", "#12345678901234567890"), 1);
        }
        fine(CLIPPER + "9999;");
        error(CLIPPER + "10000;", 1, CLIPPER.length());
        error("1".repeat(1600), 1, 0);
    }

    /** Each beginning of a book that is no book. */
    private static void endOfTheTape() {
        String[] tokens = {"bay", "4", ",", "4", ";", "kettle", "1", ",", "2", "steams", "3", ";", "customs", "2", ",",
            "2", ";", "clipper", "rose", "home", "0", ",", "0", "noses", "1", "steers", "if", "leaf", "<", "5", "then",
            "most", "(", "1", ",", "not", "wind", ")", "else", "-", "(", "best", "%", "4", ")", "or", "2", "and", "3",
            ";"};
        StringBuilder book = new StringBuilder();
        for (String token : tokens) {
            book.append(book.length() == 0 ? "" : " ").append(token);
            boolean whole = token.equals(";");
            for (String behind : new String[] {"", " ", "\n", "   \n"}) {
                String text = book + behind;
                error(text, whole ? 0 : 1, whole ? -1 : text.length());
            }
        }
        error("bay", 1, 3);
        error("bay 4,4" + " ".repeat(1593), 1, 1600);
    }

    private static void depthOfSeven() {
        String six = "((((((";
        errorAtMark(CLIPPER + six + "#(1)))))));", 1);
        errorAtMark(CLIPPER + six + "#-1))))));", 1);
        errorAtMark(CLIPPER + six + "#not 1))))));", 1);
        errorAtMark(CLIPPER + six + "#if 1 then 2 else 3))))));", 1);
        errorAtMark(CLIPPER + six + "least#(1,2)))))));", 1);
        errorAtMark(CLIPPER + six + "most#(1,2)))))));", 1);
        errorAtMark(CLIPPER + "------#-1;", 1);
        errorAtMark(CLIPPER + "------#(1);", 1);
        errorAtMark(CLIPPER + "not not not not not not #not 1;", 1);
        errorAtMark(CLIPPER + "if 1 then 2 else ".repeat(6) + "#if 1 then 2 else 3;", 1);
        errorAtMark(CLIPPER + "if 1 then 2 else ".repeat(6) + "#-1;", 1);
        String five = "(((((";
        fine(CLIPPER + five + "(1))))));");
        fine(CLIPPER + five + "-1)))));");
        fine(CLIPPER + five + "not 1)))));");
        fine(CLIPPER + five + "if 1 then 2 else 3)))));");
        fine(CLIPPER + five + "least(1,2))))));");
        fine(CLIPPER + five + "most(1,2))))));");
        // The - between two values makes nothing deeper.
        fine(CLIPPER + six + "1-1))))));");
    }

    /** 9 tokens ahead of the rule and 390 in it, so that the ; is the 400th. */
    private static String fourHundred() {
        return CLIPPER + "-1" + "+1".repeat(194);
    }

    private static void token401() {
        String most = fourHundred();
        fine(most + ";");
        error(most + ";;", 1, most.length() + 1);
        error(most + "; bay 4,4;", 1, most.length() + 2);
        error(most + ";customs", 1, most.length() + 1);
        error(most + ";customs 1,1;", 1, most.length() + 1);
        error(most + "; \n clipper", 1, most.length() + 4);
        error(most + ";1", 1, most.length() + 1);
        error(most + ";\u0000", 1, most.length() + 1);
        error(most + ";abcdefghi", 1, most.length() + 1);
        // Here a ; alone would fit, as the 401st.
        error(CLIPPER + "1" + "+1".repeat(195) + ";", 1, CLIPPER.length() + 391);
        error(CLIPPER + "--1" + "+1".repeat(194) + ";", 1, CLIPPER.length() + 391);
        // 80 lines of 5 tokens each, and a word with which a line begins.
        String lines = "customs 1,1;".repeat(80);
        error(lines, 3, 22);
        error(lines + " customs 1,1;", 1, lines.length() + 1);
        error(lines + "bay", 1, lines.length());
        error(lines + " ;", 1, lines.length() + 1);
    }

    private static void endIsNotCounted() {
        String most = fourHundred();
        fine(most + ";");
        fine(most + "; ");
        fine(most + ";\n \n");
        fine(most + ";" + " ".repeat(1600 - most.length() - 1));
        error(most, 1, most.length());
        error(most + " ", 1, most.length() + 1);
        // All of 400 tokens, and the book is not whole: the end is what does not fit.
        error(most + "+", 1, most.length() + 1);
        error(most + "+ ", 1, most.length() + 2);
        error(most + "+1", 1, most.length() + 1);
    }

    private static void positions() {
        errorAtMark("  \n  #kettles 1,1 steams 1;", 1);
        errorAtMark("bay 4,4;\n\n  #rose", 1);
        errorAtMark("bay 4,4;   #12345", 1);
        errorAtMark("bay 4,  #abcdefghij;", 1);
        errorAtMark("bay 4,4;   #?", 1);
        errorAtMark(CLIPPER + "1 +   #then;", 1);
        errorAtMark("clipper rose home 1,1 noses 1 steers 1; clipper \n #rose home 1,1 noses 1 steers 1;", 2);
        errorAtMark("customs 1,1; customs 1 , \n #0001;", 3);
        errorAtMark("kettle 1,1 steams 1; customs 1, #01 ;", 3);
        errorAtMark(KETTLES + " \n  #kettle 5,5 steams 1;", 4);
        errorAtMark(CUSTOMS + "\n #customs 5,5;", 4);
        errorAtMark(CLIPPERS + "   #clipper z home 5,5 noses 1 steers 1;", 4);
        errorAtMark("bay 4,4; \n #bay 4,4;", 4);
        errorAtMark("bay   #0013,3;", 5);
        errorAtMark("bay 3 ,  #0002;", 5);
        errorAtMark("kettle 5,  #06 steams 1;", 5);
        errorAtMark("kettle 5,5 steams \n#0031;", 5);
        errorAtMark("clipper a home 0,0 noses   #5 steers 1;", 5);
    }

    private static void errorOneIsToldFirst() {
        String[] wrong = {"clipper z home 0,0 noses 1 steers 1;clipper z home 0,0 noses 1 steers 1;",
            "customs 3,3;customs 3,3;", "customs 4,4;bay 4,4;", "kettle 0,0 steams 31;"};
        for (int error = 2; error <= 5; error++) {
            String book = wrong[error - 2];
            check.due("teach of " + book, error, () -> Books.teach(new TeaRegatta(), book));
            errorAtMark(book + "#;", 1);
            errorAtMark(book + "#rose", 1);
            errorAtMark(book + "customs 5,5#", 1);
            errorAtMark(book + CLIPPER + "(1#;", 1);
            errorAtMark(book + "   #!", 1);
            errorAtMark(book.substring(0, book.length() - 1) + "#", 1);
            String two = book + book;
            errorAtMark(two.substring(0, two.length() - 1) + "#.", 1);
        }
        errorAtMark("bay #99999,2;", 1);
        errorAtMark("bay 99,2;#abcdefghi", 1);
    }

    private static void firstIsTold() {
        // Behind a bay, customs at 3,3 and a clipper z, each of them has an error of its own at its mark.
        String begin = "bay 6,6;customs 3,3;clipper z home 0,0 noses 1 steers 1;";
        String[] wrong = {"clipper #z home 0,0 noses 1 steers 1;", "kettle 3,#3 steams 1;", "#bay 4,4;",
            "customs #6,0;"};
        for (int first = 0; first < wrong.length; first++) {
            for (String second : wrong) {
                errorAtMark(begin + wrong[first] + second.replace("#", ""), first + 2);
            }
        }
        errorAtMark("bay #2,13;kettle 9,9 steams 99;", 5);
        errorAtMark("kettle 1,1 steams #99;kettle 1,1 steams 99;", 5);
        errorAtMark("kettle 1,1 steams 9;kettle 1,#1 steams 99;", 3);
        errorAtMark("kettle #6,6 steams 31;", 5);
        errorAtMark("kettle 5,#6 steams 31;", 5);
        errorAtMark("customs 1,1;customs #9,1;customs 1,1;", 5);
        errorAtMark(CLIPPER + "1;clipper #a home 9,9 noses 9 steers 1;", 2);
        errorAtMark("clipper a home #9,9 noses 9 steers 1;clipper a home 0,0 noses 1 steers 1;", 5);
        errorAtMark(KETTLES + "#kettle 0,0 steams 99;", 4);
        errorAtMark(CLIPPERS + "#clipper a home 9,0 noses 9 steers 1;", 4);
        errorAtMark(CUSTOMS + "#customs 0,1;", 4);
        errorAtMark("bay 4,4;customs 1,1; #bay 99,4;", 4);
    }

    /**
     * Only an error 1 can share its token with another one: a told cell's row is always that of
     * a row, and no other two of the errors 2 to 5 are ever at one token.
     */
    private static void smallestNumberOfOneToken() {
        errorAtMark("customs 1,1;customs 1,#00001;", 1);
        errorAtMark("kettle 1,1 steams 1;kettle 1,#00001 steams 1;", 1);
        errorAtMark("bay #00013,4;", 1);
        errorAtMark("bay 4,#00002;", 1);
        errorAtMark("kettle 1,1 steams #00031;", 1);
        errorAtMark(KETTLES.substring(0, KETTLES.length() - 1) + " #kettle 5,5 steams 1;", 1);
        errorAtMark(CUSTOMS.substring(0, CUSTOMS.length() - 1) + " #customs 5,5;", 1);
        errorAtMark(CLIPPERS.substring(0, CLIPPERS.length() - 1) + " #clipper z home 5,5 noses 1 steers 1;", 1);
        errorAtMark("customs 1,1 #bay 4,4;", 1);
        errorAtMark(fourHundred() + ";#bay 4,4;", 1);
        errorAtMark("customs 1,1;".repeat(80) + "#customs 1,1;", 1);
    }

    private static void names() {
        String[] names = {"rose", "fern", "abcdefgh", "z", "lily", "moss"};
        StringBuilder five = new StringBuilder();
        for (int number = 0; number < 6; number++) {
            String line = "clipper " + names[number] + " home 0,0 noses 1 steers 1;";
            fine(five + line);
            for (int ahead = 0; ahead < number; ahead++) {
                errorAtMark(five + line.replace(names[number], "#" + names[ahead]), 2);
            }
            five.append(line);
        }
        String rose = "clipper rose home 0,0 noses 1 steers 1;";
        for (String other : new String[] {"rosa", "nose", "ros", "ose", "roses", "roserose", "r", "eros", "rrose"}) {
            fine(rose + rose.replace("rose", other));
        }
        String eight = "clipper abcdefgh home 0,0 noses 1 steers 1;";
        for (String other : new String[] {"abcdefgi", "bbcdefgh", "abcdefg", "hgfedcba"}) {
            fine(eight + eight.replace("abcdefgh", other));
        }
        errorAtMark("clipper a home 1,1 noses 1 steers 1;kettle 1,1 steams 1;clipper #a home 2,2 noses 2 steers 2;", 2);
    }

    private static void cells() {
        fine("kettle 1,2 steams 3;kettle 2,1 steams 3;customs 1,1;customs 2,2;");
        for (String first : new String[] {"kettle 1,2 steams 3;", "customs 1,2;"}) {
            for (String behind : new String[] {" steams 4;", ";"}) {
                String second = first + (behind.equals(";") ? "customs " : "kettle ");
                errorAtMark(second + "1,#2" + behind, 3);
                errorAtMark(second + "01,#0002" + behind, 3);
                fine(second + "1,1" + behind);
                fine(second + "1,3" + behind);
                fine(second + "0,2" + behind);
                fine(second + "2,2" + behind);
                fine(second + "2,1" + behind);
            }
        }
        for (int cell = 0; cell < 6; cell++) {
            errorAtMark(KETTLES + CUSTOMS.replace("customs 5,1;", "customs " + cell + ",#0;"), 3);
            errorAtMark(CUSTOMS + KETTLES.replace("kettle 5,0", "kettle " + cell + ",#1"), 3);
        }
        String homes = "clipper a home 1,2 noses 1 steers 1;clipper b home 1,2 noses 1 steers 1;";
        fine("kettle 1,2 steams 3;" + homes);
        fine(homes + "kettle 1,2 steams 3;");
        fine("customs 1,2;" + homes);
        fine(homes + "customs 1,2;");
    }

    /** Six of them are fine wherever the others stand, and the seventh one is not. */
    private static void sevenOf(String six, String others, String seventh) {
        fine(six);
        fine(six + others);
        fine(others + six);
        errorAtMark(six + "#" + seventh, 4);
        errorAtMark(six + others + "#" + seventh, 4);
        errorAtMark(others + six + "#" + seventh + seventh, 4);
        String five = six.substring(six.indexOf(';') + 1);
        String first = six.substring(0, six.length() - five.length());
        fine(seventh + others + five);
        errorAtMark(seventh + others + five + "#" + first, 4);
    }

    private static void kettles() {
        sevenOf(KETTLES, CUSTOMS + CLIPPERS, "kettle 5,5 steams 1;");
    }

    private static void customs() {
        sevenOf(CUSTOMS, KETTLES + CLIPPERS, "customs 5,5;");
    }

    private static void clippers() {
        sevenOf(CLIPPERS, KETTLES + CUSTOMS, "clipper z home 5,5 noses 1 steers 1;");
    }

    private static void bays() {
        fine("bay 4,4;");
        fine("bay 4,4;customs 1,1;");
        errorAtMark("bay 4,4;#bay 4,4;", 4);
        errorAtMark("bay 4,4;customs 1,1;#bay 4,4;", 4);
        errorAtMark("customs 1,1;#bay 4,4;", 4);
        errorAtMark("kettle 1,1 steams 1;#bay 4,4;", 4);
        errorAtMark(CLIPPER + "1;#bay 4,4;", 4);
        errorAtMark("customs 5,5;#bay 3,3;", 4);
        errorAtMark("bay 4,4;#bay 2,2;bay 4,4;", 4);
    }

    private static void sizes() {
        for (int size = 0; size <= 14; size++) {
            boolean right = size >= 3 && size <= 12;
            error("bay " + size + ",3;", right ? 0 : 5, right ? -1 : 4);
            error("bay 12," + size + ";", right ? 0 : 5, right ? -1 : 7);
        }
        error("bay 9999,3;", 5, 4);
        error("bay 3,9999;", 5, 6);
        error("bay 0,0;", 5, 4);
        error("bay 13,2;", 5, 4);
    }

    private static void columnsAndRows() {
        String[] lines = {"kettle #,@ steams 1;", "customs #,@;", "clipper a home #,@ noses 1 steers 1;"};
        for (int columns = 3; columns <= 12; columns++) {
            int rows = 15 - columns;
            for (String line : lines) {
                String book = "bay " + columns + "," + rows + ";" + line;
                int at = book.indexOf('#');
                fine(book.replace("#", "0").replace("@", "0"));
                fine(book.replace("#", "" + (columns - 1)).replace("@", "0"));
                fine(book.replace("#", "0").replace("@", "" + (rows - 1)));
                fine(book.replace("#", "" + (columns - 1)).replace("@", "" + (rows - 1)));
                error(book.replace("#", "" + columns).replace("@", "0"), 5, at);
                error(book.replace("#", "0").replace("@", "" + rows), 5, at + 2);
                error(book.replace("#", "" + columns).replace("@", "" + rows), 5, at);
                error(book.replace("#", "9999").replace("@", "0"), 5, at);
                error(book.replace("#", "0").replace("@", "9999"), 5, at + 2);
            }
        }
    }

    private static void steams() {
        for (int steam = 0; steam <= 32; steam++) {
            boolean right = steam >= 1 && steam <= 30;
            error("kettle 1,1 steams " + steam + ";", right ? 0 : 5, right ? -1 : 18);
        }
        error("kettle 1,1 steams 9999;", 5, 18);
    }

    private static void noses() {
        for (int noses = 0; noses <= 6; noses++) {
            boolean right = noses >= 1 && noses <= 4;
            error("clipper a home 1,1 noses " + noses + " steers 1;", right ? 0 : 5, right ? -1 : 25);
        }
        error("clipper a home 1,1 noses 9999 steers 1;", 5, 25);
    }

    private static void sizeOfTheBay() {
        for (String line : new String[] {"kettle #,@ steams 1;", "customs #,@;", "clipper a home #,@ noses 1 steers 1;"}) {
            fine(line.replace("#", "5").replace("@", "5"));
            error(line.replace("#", "6").replace("@", "5"), 5, line.indexOf('#'));
            error(line.replace("#", "5").replace("@", "6"), 5, line.indexOf('@'));
        }
        check.due("columns without a line", 6, () -> Books.taught("customs 1,1;").columns());
        check.due("rows without a line", 6, () -> Books.taught("customs 1,1;").rows());
        for (int size = 3; size <= 12; size++) {
            TeaRegatta x = Books.taught("bay " + size + "," + (15 - size) + ";");
            check.due("columns", size, x::columns);
            check.due("rows", 15 - size, x::rows);
            check.due("teach of a book without a bay", 0, () -> Books.teach(x, "customs 5,5;"));
            check.due("columns", 6, x::columns);
            check.due("rows", 6, x::rows);
        }
        // The bay has 6 columns as long as no line has told otherwise.
        error("customs 7,1;bay 9,9;", 5, 8);
    }
}
