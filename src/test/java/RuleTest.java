/** Promises 26 to 29: what clippers smell, what their rules tell and where they steer. */
public final class RuleTest {
    private static final Check check = new Check();

    public static void main(String[] args) {
        numbers();
        wrapping();
        logic();
        precedence();
        measures();
        smells();
        best();
        steers();
        rulesOfTheirOwn();
        check.end();
    }

    private static TeaRegatta steeredBy(String rule) {
        return Books.taught("bay 3,3;clipper a home 1,1 noses 1 steers " + rule + ";");
    }

    private static void tells(String rule, int want) {
        check.due("ruleTells of " + rule, want, () -> steeredBy(rule).ruleTells(0));
    }

    private static void numbers() {
        tells("0", 0);
        tells("9999", 9999);
        tells("0012", 12);
        tells("-5", -5);
        tells("--5", 5);
        tells("1+2", 3);
        tells("1-2", -1);
        tells("7*6", 42);
        tells("7/2", 3);
        tells("-7/2", -3);
        tells("7/-2", -3);
        tells("-7/-2", 3);
        tells("7%4", 3);
        tells("-7%4", -3);
        tells("7%-4", 3);
        tells("7/0", 0);
        tells("7%0", 0);
        tells("0/0", 0);
        tells("-7/0", 0);
        tells("least(3,-4)", -4);
        tells("least(-4,3)", -4);
        tells("most(3,-4)", 3);
        tells("most(-4,3)", 3);
        tells("least(2,2)+most(2,2)", 4);
        tells("least(7/0,not 0)-2147%10*0+most(3,hour)-4*leaf", 3);
    }

    private static void wrapping() {
        String least = "32*32*32*32*32*32*2";
        tells(least, Integer.MIN_VALUE);
        tells(least + "-1", Integer.MAX_VALUE);
        tells("(" + least + "-1)+1", Integer.MIN_VALUE);
        tells("-(" + least + ")", Integer.MIN_VALUE);
        tells("(" + least + ")/-1", Integer.MIN_VALUE);
        tells("(" + least + ")%-1", 0);
        tells("9999*9999*9999", (int) (9999L * 9999L * 9999L));
        tells("(" + least + ")<(" + least + "-1)", 1);
        tells("least(" + least + "," + least + "-1)", Integer.MIN_VALUE);
        tells("most(" + least + "," + least + "-1)", Integer.MAX_VALUE);
    }

    private static void logic() {
        tells("3<4", 1);
        tells("3<3", 0);
        tells("4<3", 0);
        tells("4>3", 1);
        tells("3>3", 0);
        tells("3>4", 0);
        tells("3=3", 1);
        tells("3=4", 0);
        tells("-3<2", 1);
        tells("5 and 6", 1);
        tells("5 and 0", 0);
        tells("0 and 5", 0);
        tells("0 and 0", 0);
        tells("5 or 6", 1);
        tells("5 or 0", 1);
        tells("0 or -5", 1);
        tells("0 or 0", 0);
        tells("0 or 0 or 3", 1);
        tells("1 and 2 and 0", 0);
        tells("1 and 2 and 3", 1);
        tells("not 0", 1);
        tells("not 5", 0);
        tells("not -5", 0);
        tells("not not 5", 1);
        tells("if 1 then 5 else 6", 5);
        tells("if 0 then 5 else 6", 6);
        tells("if -1 then 5 else 6", 5);
        tells("if 0 then 1 else if 0 then 2 else if 1 then 3 else 4", 3);
        tells("if if 0 then 1 else 0 then 5 else 6", 6);
        tells("if 1 then if 0 then 5 else 6 else 7", 6);
        tells("if 0 then 5 else 6+1", 7);
        tells("if 0 or 1 then 5 else 6", 5);
        tells("(if 1 then 5 else 6)*2", 10);
    }

    private static void precedence() {
        tells("7", 7);
        tells("(7)", 7);
        tells("1-2-3", -4);
        tells("1-(2-3)", 2);
        tells("2*3+4*5", 26);
        tells("2*(3+4)*5", 70);
        tells("100/10*3", 30);
        tells("100/10/5", 2);
        tells("17%10%4", 3);
        tells("7*3%4", 1);
        tells("1+2<4", 1);
        tells("1+(2<4)", 2);
        tells("1 or 1 and 0", 1);
        tells("(1 or 1) and 0", 0);
        tells("0 and 0 or 1", 1);
        tells("1<2 and 2<1 or 3=3", 1);
        tells("2=2 and 3", 1);
        tells("not 0+5", 6);
        tells("not 2=0", 1);
        tells("not (2=0)", 1);
        tells("not (2=2)", 0);
        tells("-2*-3", 6);
        tells("-2-3", -5);
        tells("-(2-3)", 1);
        tells("5--3", 8);
        tells("- not 0", -1);
        tells("not - 1", 0);
    }

    private static void measures() {
        TeaRegatta x = Books.taught("bay 5,5;kettle 2,2 steams 14;kettle 4,0 steams 12;"
            + "clipper a home 1,2 noses 4 steers north;clipper b home 1,2 noses 4 steers east;"
            + "clipper c home 1,2 noses 4 steers south;clipper d home 1,2 noses 4 steers west;"
            + "clipper e home 1,2 noses 1 steers here;clipper f home 2,2 noses 1 steers leaf;");
        x.setWind(3, 1);
        // With the wind the aroma comes from 1,2 and from 3,0.
        check.due("north", 12 + 6, () -> x.ruleTells(0));
        check.due("east", 12 + 6, () -> x.ruleTells(1));
        check.due("south", 12 + 2, () -> x.ruleTells(2));
        check.due("west", 12 + 2, () -> x.ruleTells(3));
        check.due("here, with noses or without", 14 + 4, () -> x.ruleTells(4));
        check.due("leaf", 0, () -> x.ruleTells(5));
        x.setWind(3, 0);
        x.sail(1);
        check.due("leaf", 6, () -> x.ruleTells(5));
        x.jettison(5, 2);
        check.due("leaf", 4, () -> x.ruleTells(5));
        check.due("the one that steams alone", 2, () -> x.ruleTells(4));
        TeaRegatta y = Books.taught("clipper a home 0,0 noses 1 steers hour;clipper b home 0,0 noses 1 steers wind;"
            + "clipper c home 0,0 noses 1 steers force;clipper d home 0,0 noses 1 steers hour*100+wind*10+force;");
        y.setWind(2, 3);
        y.sail(17);
        check.due("hour", 17, () -> y.ruleTells(0));
        check.due("wind", 2, () -> y.ruleTells(1));
        check.due("force", 3, () -> y.ruleTells(2));
        check.due("all", 1723, () -> y.ruleTells(3));
    }

    private static void smells() {
        for (int noses = 1; noses <= 4; noses++) {
            TeaRegatta x = Books.taught("bay 3,3;kettle 1,1 steams 19;clipper a home 1,1 noses " + noses + " steers 1;"
                + "clipper b home 0,0 noses " + noses + " steers north*100+west;");
            int most = 5 * noses;
            for (int direction = 0; direction < 4; direction++) {
                int d = direction;
                check.due("smells " + d, Math.min(17, most), () -> x.smells(0, d));
            }
            check.due("smells to the edge", 0, () -> x.smells(1, 0));
            check.due("smells to the edge", 0, () -> x.smells(1, 3));
            check.due("smells within", Math.min(17, most), () -> x.smells(1, 1));
            check.due("rule at the edge", 0, () -> x.ruleTells(1));
            check.due("smells -1", Books.OUT_OF_BOUNDS, () -> x.smells(0, -1));
            check.due("smells 4", Books.OUT_OF_BOUNDS, () -> x.smells(0, 4));
            check.due("smells MAX", Books.OUT_OF_BOUNDS, () -> x.smells(0, Integer.MAX_VALUE));
            check.due("smells MIN", Books.OUT_OF_BOUNDS, () -> x.smells(0, Integer.MIN_VALUE));
        }
        TeaRegatta y = Books.taught("bay 3,3;kettle 1,1 steams 12;clipper a home 2,2 noses 4 steers 1;");
        check.due("smells north", 10, () -> y.smells(0, 0));
        check.due("smells to the east edge", 0, () -> y.smells(0, 1));
        check.due("smells to the south edge", 0, () -> y.smells(0, 2));
        check.due("smells west", 10, () -> y.smells(0, 3));
        y.setWind(0, 1);
        check.due("smells north", 8, () -> y.smells(0, 0));
        check.due("smells west", 8, () -> y.smells(0, 3));
        y.setWind(2, 1);
        check.due("smells north", 8, () -> y.smells(0, 0));
        check.due("smells west", 12, () -> y.smells(0, 3));
    }

    private static void best() {
        String clipper = "clipper a home 2,2 noses 4 steers best;";
        check.due("nothing to smell", 0, () -> Books.taught(clipper).ruleTells(0));
        check.due("best north", 0, () -> Books.taught("kettle 2,0 steams 9;" + clipper).ruleTells(0));
        check.due("best east", 1, () -> Books.taught("kettle 5,2 steams 9;" + clipper).ruleTells(0));
        check.due("best south", 2, () -> Books.taught("kettle 2,4 steams 9;" + clipper).ruleTells(0));
        check.due("best west", 3, () -> Books.taught("kettle 0,2 steams 9;" + clipper).ruleTells(0));
        check.due("best of south and west", 2, () -> Books.taught("kettle 1,3 steams 9;" + clipper).ruleTells(0));
        check.due("best of east and south", 1, () -> Books.taught("kettle 3,3 steams 9;" + clipper).ruleTells(0));
        check.due("best of all, here", 0, () -> Books.taught("kettle 2,2 steams 9;" + clipper).ruleTells(0));
        // One nose smells 5 in each direction, however much more comes from the west.
        check.due("best with a nose", 0, () -> Books.taught("kettle 3,2 steams 8;kettle 1,2 steams 30;"
            + "clipper a home 2,2 noses 1 steers best;").ruleTells(0));
        check.due("best in a corner", 1, () -> Books.taught("kettle 1,0 steams 8;"
            + "clipper a home 0,0 noses 1 steers best;").ruleTells(0));
    }

    private static void steers() {
        for (int number = 0; number < 12; number++) {
            TeaRegatta x = steeredBy("" + number);
            check.due("wouldStay of " + number, false, () -> x.wouldStay(0));
            check.due("steersTo of " + number, number % 4, () -> x.steersTo(0));
            TeaRegatta y = steeredBy("-" + (number + 1));
            check.due("wouldStay of less than 0", true, () -> y.wouldStay(0));
            check.due("steersTo of less than 0", Books.STATE, () -> y.steersTo(0));
        }
        check.due("steersTo of 9999", 3, () -> steeredBy("9999").steersTo(0));
        TeaRegatta x = steeredBy("hour-2");
        check.due("wouldStay now", true, () -> x.wouldStay(0));
        x.sail(2);
        check.due("wouldStay now", false, () -> x.wouldStay(0));
        check.due("steersTo now", 0, () -> x.steersTo(0));
        x.sail(3);
        check.due("steersTo now", 3, () -> x.steersTo(0));
    }

    private static void rulesOfTheirOwn() {
        TeaRegatta x = Books.taught("clipper a home 0,0 noses 1 steers 1+2*3;clipper b home 0,0 noses 1 steers -9;"
            + "clipper c home 0,0 noses 1 steers if hour then 4 else 5;");
        check.due("ruleTells 0", 7, () -> x.ruleTells(0));
        check.due("ruleTells 1", -9, () -> x.ruleTells(1));
        check.due("ruleTells 2", 5, () -> x.ruleTells(2));
        x.sail(1);
        check.due("ruleTells 2", 4, () -> x.ruleTells(2));
        check.due("ruleTells 0", 7, () -> x.ruleTells(0));
    }
}
