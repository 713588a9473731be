/** Promises 2 to 5: what feed, trim, teach and errorAt do to the tape. */
public final class TapeTest {
    private static final Check check = new Check();

    public static void main(String[] args) {
        feedAppendsHighestByteFirst();
        feedEndsAt1600();
        trimCuts();
        teachEmptiesTheTape();
        allBytesCount();
        check.end();
    }

    private static void feedAppendsHighestByteFirst() {
        TeaRegatta x = new TeaRegatta();
        // "bay " "3,12" ";   " and blanks: other orders of the bytes are no book.
        check.due("feed", 20, () -> x.feed(0x62617920, 0x332C3132, 0x3B202020, 0x20202020, 0x20202020));
        check.due("teach", 0, x::teach);
        check.due("columns", 3, x::columns);
        check.due("rows", 12, x::rows);
        TeaRegatta y = new TeaRegatta();
        check.due("feed", 20, () -> y.feed(0x20202020, 0x20202020, 0x20206261, 0x7920350A, 0x2C0A3720));
        check.due("feed", 40, () -> y.feed(0x3B0A0A0A, 0x0A0A0A0A, 0x20202020, 0x20202020, 0x2020203B));
        check.due("teach", 1, y::teach);
        check.due("errorAt", 39, y::errorAt);
    }

    private static void feedEndsAt1600() {
        TeaRegatta x = new TeaRegatta();
        for (int times = 1; times <= 80; times++) {
            int bytes = times * 20;
            check.due("feed " + times, bytes, () -> x.feed(0x20202020, 0x20202020, 0x20202020, 0x20202020, 0x20202020));
        }
        check.due("feed 81", Books.STATE, () -> x.feed(0, 0, 0, 0, 0));
        check.due("trim(1581)", 1581, () -> x.trim(1581));
        check.due("feed at 1581", Books.STATE, () -> x.feed(0, 0, 0, 0, 0));
        check.due("a feed that throws appends nothing", Books.ARGUMENT, () -> x.trim(1582));
        check.due("trim(1580)", 1580, () -> x.trim(1580));
        check.due("feed at 1580", 1600, () -> x.feed(0x20202020, 0x20202020, 0x20202020, 0x20202020, 0x20202041));
        check.due("teach", 1, x::teach);
        check.due("errorAt", 1599, x::errorAt);
    }

    private static void trimCuts() {
        TeaRegatta x = new TeaRegatta();
        check.due("trim(0) of nothing", 0, () -> x.trim(0));
        check.due("trim(1) of nothing", Books.ARGUMENT, () -> x.trim(1));
        check.due("trim(-1)", Books.ARGUMENT, () -> x.trim(-1));
        Books.feed(x, 0, "bay 4,5;bay 6,6;    ");
        check.due("trim(21) of 20", Books.ARGUMENT, () -> x.trim(21));
        check.due("trim(MAX)", Books.ARGUMENT, () -> x.trim(Integer.MAX_VALUE));
        check.due("trim(MIN)", Books.ARGUMENT, () -> x.trim(Integer.MIN_VALUE));
        check.due("trim(20) of 20", 20, () -> x.trim(20));
        check.due("trim(8)", 8, () -> x.trim(8));
        check.due("what was cut is gone", Books.ARGUMENT, () -> x.trim(9));
        Books.feed(x, 8, "kettle 3,4 steams 1;");
        check.due("teach", 0, x::teach);
        check.due("columns", 4, x::columns);
        check.due("kettles", 1, x::kettles);
    }

    private static void teachEmptiesTheTape() {
        TeaRegatta x = new TeaRegatta();
        check.due("errorAt without teach", -1, x::errorAt);
        Books.feed(x, 0, "bay 4,4;");
        check.due("errorAt ahead of teach", -1, x::errorAt);
        check.due("teach", 0, x::teach);
        check.due("nothing on the tape", Books.ARGUMENT, () -> x.trim(1));
        Books.feed(x, 0, "bay 4,4");
        check.due("teach", 1, x::teach);
        check.due("errorAt", 7, x::errorAt);
        check.due("nothing on the tape", Books.ARGUMENT, () -> x.trim(1));
        Books.feed(x, 0, "bay 5,5;");
        check.due("errorAt stays till teach", 7, x::errorAt);
        check.due("teach", 0, x::teach);
        check.due("errorAt", -1, x::errorAt);
        check.due("an empty book", 0, x::teach);
        check.due("columns", 6, x::columns);
    }

    private static void allBytesCount() {
        for (int sign = 0; sign < 256; sign++) {
            TeaRegatta x = new TeaRegatta();
            Books.feed(x, 0, (char) sign + "bay 4,4;");
            boolean blank = sign == 32 || sign == 10;
            boolean letter = sign >= 'a' && sign <= 'z';
            check.due("teach behind byte " + sign, blank ? 0 : 1, x::teach);
            check.due("errorAt behind byte " + sign, blank ? -1 : 0, x::errorAt);
            TeaRegatta y = new TeaRegatta();
            Books.feed(y, 0, "bay 4,4;clipper " + (char) sign + " home 1,1 noses 1 steers 1;");
            check.due("teach with name of byte " + sign, letter ? 0 : 1, y::teach);
            check.due("errorAt with name of byte " + sign, letter ? -1 : blank ? 18 : 16, y::errorAt);
        }
    }
}
