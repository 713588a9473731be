/** Promises 2 to 5: what feed, trim, teach and errorAt do to the tape. */
public final class TapeTest {
    private static final Check check = new Check();

    public static void main(String[] args) {
        check.sentence("Appends twenty bytes to the tape: the four bytes of each number, the highest one first.",
            TapeTest::feedAppendsHighestByteFirst);
        check.sentence("The tape is a row of at most 1600 bytes", TapeTest::atMost1600Bytes);
        check.sentence("feed throws if there would be more than 1600", TapeTest::feedEndsAt1600);
        check.sentence("at first empty", TapeTest::atFirstEmpty);
        check.sentence("it is empty behind it", TapeTest::teachEmptiesTheTape);
        check.sentence("Shortens the tape to its first bytes.", TapeTest::trimCuts);
        check.sentence("trim throws if bytes is not 0 to the number of bytes of the tape", TapeTest::trimToWhatThereIs);
        check.sentence("-1 if it had none, or there was none", TapeTest::errorAtWithoutError);
        check.end();
    }

    private static void feedAppendsHighestByteFirst() {
        TeaRegatta x = new TeaRegatta();
        // "bay " "3,12" ";   " and blanks: other orders of the bytes are no book.
        check.due("feed", 20, () -> x.feed(0x62617920, 0x332C3132, 0x3B202020, 0x20202020, 0x20202020));
        check.due("teach", 0, x::teach);
        check.due("columns", 3, x::columns);
        check.due("rows", 12, x::rows);
        TeaRegatta y = new TeaRegatta();
        check.due("feed", 20, () -> y.feed(0x20202020, 0x20202020, 0x20202020, 0x20206261, 0x7920350A));
        check.due("feed", 40, () -> y.feed(0x2C0A3720, 0x3B0A0A0A, 0x20202020, 0x20202020, 0x2020203B));
        check.due("teach", 1, y::teach);
        check.due("errorAt", 39, y::errorAt);
    }

    /** A book that fills the whole tape is read up to its last byte. */
    private static void atMost1600Bytes() {
        String first = "bay 4,5;";
        String last = "kettle 3,4 steams 30;";
        String between = "\n".repeat(1600 - first.length() - last.length());
        Books.error(check, first + between + last, 0, -1);
        TeaRegatta x = Books.taught(first + between + last);
        check.due("kettles", 1, x::kettles);
        check.due("steam", 30, () -> x.aromaAt(3, 4));
        Books.error(check, first + between + last.replace(';', '.'), 1, 1599);
        Books.error(check, first + between + last.replace(';', ' '), 1, 1600);
        Books.error(check, " ".repeat(1599) + "!", 1, 1599);
        Books.error(check, " ".repeat(1599) + "b", 1, 1599);
        Books.error(check, " ".repeat(1597) + "bay", 1, 1600);
    }

    private static TeaRegatta withBytes(int bytes) {
        TeaRegatta x = new TeaRegatta();
        Books.feed(x, 0, " ".repeat(bytes));
        return x;
    }

    private static void feedEndsAt1600() {
        TeaRegatta x = new TeaRegatta();
        for (int times = 1; times <= 80; times++) {
            check.due("feed " + times, times * 20, () -> Books.feedBlanks(x));
        }
        check.due("feed 81", Books.STATE, () -> x.feed(0, 0, 0, 0, 0));
        check.due("feed 82", Books.STATE, () -> x.feed(0, 0, 0, 0, 0));
        check.due("trim(1581)", 1581, () -> x.trim(1581));
        check.due("feed at 1581", Books.STATE, () -> x.feed(0, 0, 0, 0, 0));
        check.due("a feed that throws appends nothing", Books.ARGUMENT, () -> x.trim(1582));
        check.due("trim(1580)", 1580, () -> x.trim(1580));
        check.due("feed at 1580", 1600, () -> x.feed(0x20202020, 0x20202020, 0x20202020, 0x20202020, 0x20202041));
        check.due("teach", 1, x::teach);
        check.due("errorAt", 1599, x::errorAt);
        for (int bytes = 1560; bytes <= 1600; bytes++) {
            TeaRegatta y = withBytes(bytes);
            Object want = bytes > 1580 ? Books.STATE : (Object) (bytes + 20);
            check.due("feed at " + bytes, want, () -> Books.feedBlanks(y));
        }
    }

    private static void atFirstEmpty() {
        check.due("trim(0)", 0, () -> new TeaRegatta().trim(0));
        check.due("trim(1)", Books.ARGUMENT, () -> new TeaRegatta().trim(1));
        check.due("the first feed", 20, () -> Books.feedBlanks(new TeaRegatta()));
        TeaRegatta x = new TeaRegatta();
        check.due("teach", 0, x::teach);
        check.due("errorAt", -1, x::errorAt);
    }

    private static void teachEmptiesTheTape() {
        TeaRegatta x = new TeaRegatta();
        for (String book : new String[] {"bay 4,4;", "bay 4,4", "bay 4,4;bay 4,4;", " ".repeat(1600)}) {
            int error = Books.teach(x, book);
            check.due("nothing behind error " + error, Books.ARGUMENT, () -> x.trim(1));
            check.due("nothing to cut", 0, () -> x.trim(0));
            check.due("the first feed", 20, () -> Books.feedBlanks(x));
            check.due("trim", 0, () -> x.trim(0));
        }
        Books.teach(x, "bay 4,4;");
        check.due("columns", 4, x::columns);
        check.due("teach of an empty tape", 0, x::teach);
        check.due("columns", 6, x::columns);
    }

    private static void trimCuts() {
        TeaRegatta x = new TeaRegatta();
        Books.feed(x, 0, "bay 4,5;bay 6,6;    ");
        check.due("trim(8)", 8, () -> x.trim(8));
        check.due("what was cut is gone", Books.ARGUMENT, () -> x.trim(9));
        Books.feed(x, 8, "kettle 3,4 steams 1;");
        check.due("teach", 0, x::teach);
        check.due("columns", 4, x::columns);
        check.due("kettles", 1, x::kettles);
        Books.feed(x, 0, "bay 5,5;");
        check.due("trim(7)", 7, () -> x.trim(7));
        check.due("teach of what is left", 1, x::teach);
        check.due("errorAt", 7, x::errorAt);
    }

    private static void trimToWhatThereIs() {
        for (int bytes : new int[] {0, 1, 19, 20, 21, 1580, 1599, 1600}) {
            TeaRegatta x = withBytes(bytes);
            int[] beyond = {-1, bytes + 1, 1601, Integer.MAX_VALUE, Integer.MIN_VALUE};
            for (int wrong : beyond) {
                check.due("trim(" + wrong + ") of " + bytes, Books.ARGUMENT, () -> x.trim(wrong));
            }
            check.due("trim to all of " + bytes, bytes, () -> x.trim(bytes));
            check.due("trim(0) of " + bytes, 0, () -> x.trim(0));
            check.due("nothing is left", Books.ARGUMENT, () -> x.trim(1));
        }
    }

    private static void errorAtWithoutError() {
        TeaRegatta x = new TeaRegatta();
        check.due("without teach", -1, x::errorAt);
        Books.feed(x, 0, "bay 4,4");
        check.due("ahead of teach", -1, x::errorAt);
        check.due("teach", 1, x::teach);
        check.due("with an error", 7, x::errorAt);
        Books.feed(x, 0, "bay 5,5;");
        check.due("stays till teach", 7, x::errorAt);
        check.due("teach", 0, x::teach);
        check.due("without error", -1, x::errorAt);
        Books.teach(x, "!");
        check.due("at the first byte", 0, x::errorAt);
        check.due("teach of nothing", 0, x::teach);
        check.due("of nothing", -1, x::errorAt);
        for (int error = 1; error <= 5; error++) {
            String[] books = {"bay", "clipper a home 0,0 noses 1 steers 1;clipper a home 0,0 noses 1 steers 1;",
                "customs 0,0;customs 0,0;", "customs 0,0;bay 4,4;", "bay 2,4;"};
            int[] positions = {3, 44, 22, 12, 4};
            int which = error - 1;
            check.due("error", error, () -> Books.teach(x, books[which]));
            check.due("of error " + error, positions[which], x::errorAt);
        }
    }
}
