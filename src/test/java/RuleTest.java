/** Promises 26 to 29: what clippers smell, what their rules tell and where they steer. */
public final class RuleTest {
    private static final Check check = new Check();
    private static final String MOST = Books.MOST_NUMBER;
    private static final String LEAST = Books.LEAST_NUMBER;

    public static void main(String[] args) {
        check.sentence("Its rule tells a number", RuleTest::numbers);
        check.sentence("or and and tell 1 or 0, by whether one of both, or both, are not 0; a compare likewise",
            RuleTest::logic);
        check.sentence("if that behind if is not 0", RuleTest::aroundZero);
        check.sentence("least and most the smaller and the greater one", RuleTest::leastAndMost);
        check.sentence("sum = product { sign product }", RuleTest::precedence);
        check.sentence("north, east, south and west are what it smells there", RuleTest::measures);
        check.sentence("here is the aroma at its cell (with noses or without)", RuleTest::here);
        check.sentence("What it smells in a direction is the aroma at the next cell there", RuleTest::smells);
        check.sentence("but no more than 5 for each nose", RuleTest::fiveForEachNose);
        check.sentence("0, if there is no such cell", RuleTest::noSuchCell);
        check.sentence("best the direction in which it smells the most", RuleTest::best);
        check.sentence("of several the smallest number", RuleTest::bestOfSeveral);
        check.sentence("It steers to the direction that is the remainder of this number by 4", RuleTest::steers);
        check.sentence("with a number less than 0 it stays", RuleTest::lessThanZero);
        check.sentence("clippers, each with a rule by which it steers", RuleTest::rulesOfTheirOwn);
        check.end();
    }

    private static TeaRegatta steeredBy(String rule) {
        return Books.taught(Books.CLIPPER + rule + ";");
    }

    private static void tells(String rule, int want) {
        Books.tells(check, rule, want);
    }

    private static void numbers() {
        tells("0", 0);
        tells("9999", 9999);
        tells("0012", 12);
        tells("-5", -5);
        tells("--5", 5);
        tells("1+2", 3);
        tells("1-2", -1);
        tells("7*6", 42);
        tells("7/2", 3);
        tells("7%4", 3);
        tells("least(2,2)+most(2,2)", 4);
        tells("least(7/0,not 0)-2147%10*0+most(3,hour)-4*leaf", 3);
    }

    private static void logic() {
        tells("3<4", 1);
        tells("3<3", 0);
        tells("4<3", 0);
        tells("4>3", 1);
        tells("3>3", 0);
        tells("3>4", 0);
        tells("3=3", 1);
        tells("3=4", 0);
        tells("-3<2", 1);
        tells("5 and 6", 1);
        tells("5 and 0", 0);
        tells("0 and 5", 0);
        tells("0 and 0", 0);
        tells("5 or 6", 1);
        tells("5 or 0", 1);
        tells("0 or -5", 1);
        tells("0 or 0", 0);
        tells("0 or 0 or 3", 1);
        tells("1 and 2 and 0", 0);
        tells("1 and 2 and 3", 1);
        tells("not 0", 1);
        tells("not 5", 0);
        tells("not -5", 0);
        tells("not not 5", 1);
        tells("if 1 then 5 else 6", 5);
        tells("if 0 then 5 else 6", 6);
        tells("if -1 then 5 else 6", 5);
        tells("if 0 then 1 else if 0 then 2 else if 1 then 3 else 4", 3);
        tells("if if 0 then 1 else 0 then 5 else 6", 6);
        tells("if 1 then if 0 then 5 else 6 else 7", 6);
        tells("if 0 then 5 else 6+1", 7);
        tells("if 0 or 1 then 5 else 6", 5);
        tells("(if 1 then 5 else 6)*2", 10);
    }

    /** Each sign between small numbers on both sides of one another and of 0. */
    private static void aroundZero() {
        for (int left = -2; left <= 2; left++) {
            tells("not " + left, left == 0 ? 1 : 0);
            tells("if " + left + " then 5 else 6", left != 0 ? 5 : 6);
            for (int right = -2; right <= 2; right++) {
                tells(left + "<" + right, left < right ? 1 : 0);
                tells(left + ">" + right, left > right ? 1 : 0);
                tells(left + "=" + right, left == right ? 1 : 0);
                tells(left + " or " + right, left != 0 || right != 0 ? 1 : 0);
                tells(left + " and " + right, left != 0 && right != 0 ? 1 : 0);
            }
        }
        tells(LEAST + "<" + MOST, 1);
        tells(MOST + "<" + LEAST, 0);
        tells(LEAST + ">" + MOST, 0);
        tells(MOST + ">" + LEAST, 1);
        tells(LEAST + "=" + MOST, 0);
        tells("not " + LEAST, 0);
        tells("if " + LEAST + " then 5 else 6", 5);
    }

    private static void leastAndMost() {
        for (int left = -2; left <= 2; left++) {
            for (int right = -2; right <= 2; right++) {
                tells("least(" + left + "," + right + ")", left < right ? left : right);
                tells("most(" + left + "," + right + ")", left < right ? right : left);
            }
        }
        tells("least(" + LEAST + "," + MOST + ")", Integer.MIN_VALUE);
        tells("least(" + MOST + "," + LEAST + ")", Integer.MIN_VALUE);
        tells("most(" + LEAST + "," + MOST + ")", Integer.MAX_VALUE);
        tells("most(" + MOST + "," + LEAST + ")", Integer.MAX_VALUE);
    }

    private static void precedence() {
        tells("7", 7);
        tells("(7)", 7);
        tells("1-2-3", -4);
        tells("1-(2-3)", 2);
        tells("2*3+4*5", 26);
        tells("2*(3+4)*5", 70);
        tells("100/10*3", 30);
        tells("100/10/5", 2);
        tells("17%10%4", 3);
        tells("7*3%4", 1);
        tells("1+2<4", 1);
        tells("1+(2<4)", 2);
        tells("1 or 1 and 0", 1);
        tells("(1 or 1) and 0", 0);
        tells("0 and 0 or 1", 1);
        tells("1<2 and 2<1 or 3=3", 1);
        tells("2=2 and 3", 1);
        tells("not 0+5", 6);
        tells("not 2=0", 1);
        tells("not (2=0)", 1);
        tells("not (2=2)", 0);
        tells("-2*-3", 6);
        tells("-2-3", -5);
        tells("-(2-3)", 1);
        tells("5--3", 8);
        tells("- not 0", -1);
        tells("not - 1", 0);
    }

    private static void measures() {
        TeaRegatta x = Books.taught("bay 5,5;kettle 2,2 steams 14;kettle 4,0 steams 12;"
            + "clipper a home 1,2 noses 4 steers north;clipper b home 1,2 noses 4 steers east;"
            + "clipper c home 1,2 noses 4 steers south;clipper d home 1,2 noses 4 steers west;"
            + "clipper e home 1,2 noses 1 steers here;clipper f home 2,2 noses 1 steers leaf;");
        x.setWind(3, 1);
        // With the wind the aroma comes from 1,2 and from 3,0.
        check.due("north", 12 + 6, () -> x.ruleTells(0));
        check.due("east", 12 + 6, () -> x.ruleTells(1));
        check.due("south", 12 + 2, () -> x.ruleTells(2));
        check.due("west", 12 + 2, () -> x.ruleTells(3));
        check.due("here, with noses or without", 14 + 4, () -> x.ruleTells(4));
        check.due("leaf", 0, () -> x.ruleTells(5));
        x.setWind(3, 0);
        x.sail(1);
        check.due("leaf", 6, () -> x.ruleTells(5));
        x.jettison(5, 2);
        check.due("leaf", 4, () -> x.ruleTells(5));
        check.due("the one that steams alone", 2, () -> x.ruleTells(4));
        TeaRegatta y = Books.taught("clipper a home 0,0 noses 1 steers hour;clipper b home 0,0 noses 1 steers wind;"
            + "clipper c home 0,0 noses 1 steers force;clipper d home 0,0 noses 1 steers hour*100+wind*10+force;");
        y.setWind(2, 3);
        y.sail(17);
        check.due("hour", 17, () -> y.ruleTells(0));
        check.due("wind", 2, () -> y.ruleTells(1));
        check.due("force", 3, () -> y.ruleTells(2));
        check.due("all", 1723, () -> y.ruleTells(3));
    }

    private static void here() {
        for (int noses = 1; noses <= 4; noses++) {
            String book = "kettle 2,2 steams 30;clipper a home 2,2 noses " + noses + " steers here;";
            check.due("here on a kettle", 30, () -> Books.taught(book).ruleTells(0));
            check.due("here at its home, far away", 22,
                () -> Books.taught(book.replace("home 2,2", "home 0,0")).ruleTells(0));
        }
        check.due("here without a kettle", 0, () -> Books.taught(Books.CLIPPER + "here;").ruleTells(0));
    }

    private static void smells() {
        TeaRegatta y = Books.taught("bay 3,3;kettle 1,1 steams 12;clipper a home 2,2 noses 4 steers 1;");
        check.due("smells north", 10, () -> y.smells(0, 0));
        check.due("smells to the east edge", 0, () -> y.smells(0, 1));
        check.due("smells to the south edge", 0, () -> y.smells(0, 2));
        check.due("smells west", 10, () -> y.smells(0, 3));
        y.setWind(0, 1);
        check.due("smells north", 8, () -> y.smells(0, 0));
        check.due("smells west", 8, () -> y.smells(0, 3));
        y.setWind(2, 1);
        check.due("smells north", 8, () -> y.smells(0, 0));
        check.due("smells west", 12, () -> y.smells(0, 3));
    }

    /** One less than 5 for each nose, just that and one more, all from one kettle and from two. */
    private static void fiveForEachNose() {
        for (int noses = 1; noses <= 4; noses++) {
            int most = 5 * noses;
            for (int aroma = most - 2; aroma <= most + 2; aroma++) {
                int want = Math.min(aroma, most);
                String clipper = "clipper a home 1,1 noses " + noses + " steers east;";
                TeaRegatta x = Books.taught("bay 3,3;kettle 2,1 steams " + aroma + ";" + clipper);
                check.due("smells of " + aroma + " with noses " + noses, want, () -> x.smells(0, 1));
                check.due("east of " + aroma + " with noses " + noses, want, () -> x.ruleTells(0));
                TeaRegatta y = Books.taught("bay 3,3;kettle 2,1 steams " + (aroma - 1) + ";kettle 2,0 steams 3;" + clipper);
                check.due("smells of " + aroma + " with noses " + noses, want, () -> y.smells(0, 1));
            }
            TeaRegatta z = Books.taught("bay 3,3;kettle 1,1 steams 30;clipper a home 1,1 noses " + noses + " steers 1;");
            for (int direction = 0; direction < 4; direction++) {
                int d = direction;
                check.due("smells " + d, most, () -> z.smells(0, d));
            }
        }
    }

    /** At each cell of a bay with aroma everywhere: beyond its edges there is nothing to smell. */
    private static void noSuchCell() {
        String[] measures = {"north", "east", "south", "west"};
        for (int cell = 0; cell < 12; cell++) {
            int column = cell % 4;
            int row = cell / 4;
            boolean[] there = {row > 0, column < 3, row < 2, column > 0};
            for (int direction = 0; direction < 4; direction++) {
                int d = direction;
                TeaRegatta x = Books.taught("bay 4,3;kettle 1,1 steams 30;clipper a home " + column + "," + row
                    + " noses 1 steers " + measures[direction] + ";");
                for (int wind = 0; wind < 4; wind++) {
                    x.setWind(wind, wind);
                    check.due("smells " + d + " at " + column + "," + row, there[d] ? 5 : 0, () -> x.smells(0, d));
                    check.due(measures[d] + " at " + column + "," + row, there[d] ? 5 : 0, () -> x.ruleTells(0));
                }
            }
        }
    }

    private static void best() {
        String clipper = "clipper a home 2,2 noses 4 steers best;";
        check.due("nothing to smell", 0, () -> Books.taught(clipper).ruleTells(0));
        check.due("best north", 0, () -> Books.taught("kettle 2,0 steams 9;" + clipper).ruleTells(0));
        check.due("best east", 1, () -> Books.taught("kettle 5,2 steams 9;" + clipper).ruleTells(0));
        check.due("best south", 2, () -> Books.taught("kettle 2,4 steams 9;" + clipper).ruleTells(0));
        check.due("best west", 3, () -> Books.taught("kettle 0,2 steams 9;" + clipper).ruleTells(0));
        check.due("best of south and west", 2, () -> Books.taught("kettle 1,3 steams 9;" + clipper).ruleTells(0));
        check.due("best of east and south", 1, () -> Books.taught("kettle 3,3 steams 9;" + clipper).ruleTells(0));
        check.due("best of all, here", 0, () -> Books.taught("kettle 2,2 steams 9;" + clipper).ruleTells(0));
        // One nose smells 5 in each direction, however much more comes from the west.
        check.due("best with a nose", 0, () -> Books.taught("kettle 3,2 steams 8;kettle 1,2 steams 30;"
            + "clipper a home 2,2 noses 1 steers best;").ruleTells(0));
        check.due("best in a corner", 1, () -> Books.taught("kettle 1,0 steams 8;"
            + "clipper a home 0,0 noses 1 steers best;").ruleTells(0));
    }

    /** Kettles round a clipper that smells 4 of some of them and nothing or 3 of the others. */
    private static void bestOfSeveral() {
        String[] kettles = {"kettle 2,1 steams ", "kettle 3,2 steams ", "kettle 2,3 steams ", "kettle 1,2 steams "};
        String clipper = "clipper a home 2,2 noses 1 steers best;";
        for (int some = 0; some < 16; some++) {
            StringBuilder only = new StringBuilder("bay 5,5;");
            StringBuilder all = new StringBuilder("bay 5,5;");
            for (int direction = 3; direction >= 0; direction--) {
                boolean most = (some >> direction & 1) != 0;
                only.append(most ? kettles[direction] + "4;" : "");
                all.append(kettles[direction]).append(most ? "4;" : "3;");
            }
            int want = some == 0 ? 0 : Integer.numberOfTrailingZeros(some);
            check.due("best of " + only, want, () -> Books.taught(only + clipper).ruleTells(0));
            check.due("best of " + all, want, () -> Books.taught(all + clipper).ruleTells(0));
        }
        check.due("best of all when none smells", 0, () -> Books.taught(clipper).ruleTells(0));
        check.due("best of all with a nose", 0, () -> Books.taught("kettle 2,2 steams 30;" + clipper).ruleTells(0));
    }

    private static void steers() {
        for (int number = 0; number < 12; number++) {
            TeaRegatta x = steeredBy("" + number);
            check.due("wouldStay of " + number, false, () -> x.wouldStay(0));
            check.due("steersTo of " + number, number % 4, () -> x.steersTo(0));
        }
        check.due("steersTo of 9999", 3, () -> steeredBy("9999").steersTo(0));
        check.due("steersTo of the greatest number", 3, () -> steeredBy(MOST).steersTo(0));
        TeaRegatta x = steeredBy("hour-2");
        check.due("wouldStay now", true, () -> x.wouldStay(0));
        x.sail(2);
        check.due("wouldStay now", false, () -> x.wouldStay(0));
        check.due("steersTo now", 0, () -> x.steersTo(0));
        x.sail(3);
        check.due("steersTo now", 3, () -> x.steersTo(0));
    }

    private static void lessThanZero() {
        for (String rule : new String[] {"-1", "-2", "-3", "-4", "-5", "-8", "-9999", LEAST, MOST + "+1"}) {
            TeaRegatta x = steeredBy(rule);
            check.due("wouldStay of " + rule, true, () -> x.wouldStay(0));
            check.due("steersTo of " + rule, Books.STATE, () -> x.steersTo(0));
            x.setWind(0, 1);
            x.sail(1);
            check.due("it stays by " + rule, true, () -> x.isHome(0));
        }
        for (String rule : new String[] {"0", "-0", "1-1", "4", LEAST + "*2"}) {
            TeaRegatta x = steeredBy(rule);
            check.due("wouldStay of " + rule, false, () -> x.wouldStay(0));
            check.due("steersTo of " + rule, 0, () -> x.steersTo(0));
            x.setWind(0, 1);
            x.sail(1);
            check.due("it moves by " + rule, 0, () -> x.rowOf(0));
        }
    }

    private static void rulesOfTheirOwn() {
        TeaRegatta x = Books.taught("clipper a home 0,0 noses 1 steers 1+2*3;clipper b home 0,0 noses 1 steers -9;"
            + "clipper c home 0,0 noses 1 steers if hour then 4 else 5;");
        check.due("ruleTells 0", 7, () -> x.ruleTells(0));
        check.due("ruleTells 1", -9, () -> x.ruleTells(1));
        check.due("ruleTells 2", 5, () -> x.ruleTells(2));
        x.sail(1);
        check.due("ruleTells 2", 4, () -> x.ruleTells(2));
        check.due("ruleTells 0", 7, () -> x.ruleTells(0));
    }
}
