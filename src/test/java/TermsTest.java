/** "Terms": how the numbers of rules wrap around, are cut, and are divided by 0. */
public final class TermsTest {
    private static final Check check = new Check();
    private static final int MAX = Integer.MAX_VALUE;
    private static final int MIN = Integer.MIN_VALUE;
    private static final String MOST = Books.MOST_NUMBER;
    private static final String LEAST = Books.LEAST_NUMBER;

    public static void main(String[] args) {
        check.sentence("sums of rules wrap around in 32 bits", TermsTest::sums);
        check.sentence("differences of rules wrap around in 32 bits", TermsTest::differences);
        check.sentence("products of rules wrap around in 32 bits", TermsTest::products);
        check.sentence("/ and % are cut towards 0", TermsTest::cutTowardsZero);
        check.sentence("give 0 with 0 on the right side", TermsTest::zeroOnTheRight);
        check.sentence("-2147483648 / -1 gives -2147483648, -2147483648 % -1 gives 0", TermsTest::leastByMinusOne);
        check.sentence("Time is told in hours, from 0.", TermsTest::hoursFromZero);
        check.end();
    }

    private static void tells(String rule, int want) {
        Books.tells(check, rule, want);
    }

    private static void sums() {
        tells(MOST, MAX);
        tells(MOST + "+0", MAX);
        tells("(" + MOST + "-1)+1", MAX);
        tells(MOST + "+1", MIN);
        tells("1+" + MOST, MIN);
        tells(MOST + "+2", MIN + 1);
        tells(MOST + "+" + MOST, -2);
        tells(LEAST, MIN);
        tells(LEAST + "+0", MIN);
        tells(LEAST + "+1", MIN + 1);
        tells("(" + LEAST + "+1)+-1", MIN);
        tells(LEAST + "+-1", MAX);
        tells(LEAST + "+" + LEAST, 0);
        tells(LEAST + "+" + MOST, -1);
    }

    private static void differences() {
        tells(LEAST + "-0", MIN);
        tells("(" + LEAST + "+1)-1", MIN);
        tells(LEAST + "-1", MAX);
        tells(LEAST + "-2", MAX - 1);
        tells("-1-" + MOST, MIN);
        tells("-2-" + MOST, MAX);
        tells("-1-" + LEAST, MAX);
        tells("0-" + LEAST, MIN);
        tells("1-" + LEAST, MIN + 1);
        tells(MOST + "--1", MIN);
        tells("(" + MOST + "-1)--1", MAX);
        tells(LEAST + "-" + MOST, 1);
        tells(MOST + "-" + LEAST, -1);
        tells("-" + LEAST, MIN);
        tells("-" + MOST, MIN + 1);
        tells("-(" + LEAST + "+1)", MAX);
    }

    private static void products() {
        String power15 = "(8192*4)";
        String power16 = "(8192*8)";
        tells("(" + power15 + "-1)*" + power16, MAX - 65535);
        tells(power15 + "*" + power16, MIN);
        tells("-" + power15 + "*" + power16, MIN);
        tells("(-" + power15 + "-1)*" + power16, MAX - 65535);
        tells(power16 + "*" + power16, 0);
        tells("(" + power16 + "+1)*" + power16, 65536);
        tells("4634*10*(4634*10)", 2147395600);
        tells("(4634*10+1)*(4634*10+1)", -2147479015);
        tells("-(4634*10+1)*(4634*10+1)", 2147479015);
        tells(MOST + "*1", MAX);
        tells(MOST + "*-1", MIN + 1);
        tells(MOST + "*2", -2);
        tells(MOST + "*" + MOST, 1);
        tells(LEAST + "*1", MIN);
        tells(LEAST + "*-1", MIN);
        tells(LEAST + "*2", 0);
        tells(LEAST + "*" + LEAST, 0);
        tells(LEAST + "*" + MOST, MIN);
        tells("9999*9999*9999", (int) (9999L * 9999L * 9999L));
    }

    private static void cutTowardsZero() {
        for (int left = 0; left <= 9; left++) {
            for (int right = 1; right <= 4; right++) {
                int times = 0;
                while ((times + 1) * right <= left) {
                    times++;
                }
                int rest = left - times * right;
                tells(left + "/" + right, times);
                tells("-" + left + "/" + right, -times);
                tells(left + "/-" + right, -times);
                tells("-" + left + "/-" + right, times);
                tells(left + "%" + right, rest);
                tells("-" + left + "%" + right, -rest);
                tells(left + "%-" + right, rest);
                tells("-" + left + "%-" + right, -rest);
            }
        }
        tells(MOST + "/2", 1073741823);
        tells("-" + MOST + "/2", -1073741823);
        tells(LEAST + "/" + MOST, -1);
        tells(MOST + "/" + LEAST, 0);
        tells(LEAST + "%" + MOST, -1);
        tells(MOST + "%" + LEAST, MAX);
    }

    private static void zeroOnTheRight() {
        String[] lefts = {"0", "1", "-1", "9999", MOST, LEAST};
        int[] numbers = {0, 1, -1, 9999, MAX, MIN};
        for (int i = 0; i < lefts.length; i++) {
            tells(lefts[i] + "/0", 0);
            tells(lefts[i] + "%0", 0);
            tells(lefts[i] + "/(1-1)", 0);
            tells(lefts[i] + "%(1-1)", 0);
            tells(lefts[i] + "/leaf", 0);
            tells(lefts[i] + "%hour", 0);
            tells(lefts[i] + "/1", numbers[i]);
            tells(lefts[i] + "%1", 0);
            tells(lefts[i] + "/-1", -numbers[i]);
            tells(lefts[i] + "%-1", 0);
        }
        tells("5/0+7", 7);
        tells("5%0*7", 0);
        tells("if 0 then 5/0 else 5", 5);
    }

    private static void leastByMinusOne() {
        tells(LEAST + "/-1", MIN);
        tells(LEAST + "%-1", 0);
        tells("(" + LEAST + "+1)/-1", MAX);
        tells("(" + LEAST + "+1)%-1", 0);
        tells(MOST + "/-1", MIN + 1);
        tells(LEAST + "/1", MIN);
        tells(LEAST + "/-2", 1073741824);
        tells(LEAST + "%-2", 0);
        tells(LEAST + "%-3", -2);
        tells(LEAST + "/" + LEAST, 1);
        tells(LEAST + "%" + LEAST, 0);
    }

    private static void hoursFromZero() {
        TeaRegatta x = new TeaRegatta();
        check.due("hour of a new object", 0, x::hour);
        x.sail(1);
        check.due("hour behind an hour", 1, x::hour);
        tells("hour", 0);
        TeaRegatta y = Books.taught(Books.CLIPPER + "hour;");
        check.due("hour of a new book", 0, y::hour);
        y.sail(1);
        check.due("hour in a rule", 1, () -> y.ruleTells(0));
    }
}
