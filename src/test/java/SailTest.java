/** Promises 17 to 25, 30, 32 and 34: how hours go by, and what is done to clippers by hand. */
public final class SailTest {
    private static final Check check = new Check();

    public static void main(String[] args) {
        aVoyage();
        wayAndSpeed();
        fullOfLeaf();
        moves();
        staying();
        customsTakeSips();
        homeWithCustomsAndKettle();
        oneByOne();
        becalmedHours();
        sailTellsAllPoints();
        hoursOfSail();
        jettison();
        leader();
        sixOfAll();
        check.end();
    }

    /** Column, leaf, way, points and sips of clipper 0, then becalmedFor and visitsTo of kettle 0. */
    private static void stands(TeaRegatta x, String when, int... want) {
        check.due("columnOf " + when, want[0], () -> x.columnOf(0));
        check.due("leafOf " + when, want[1], () -> x.leafOf(0));
        check.due("wayOf " + when, want[2], () -> x.wayOf(0));
        check.due("pointsOf " + when, want[3], () -> x.pointsOf(0));
        check.due("sipsOf " + when, want[4], () -> x.sipsOf(0));
        check.due("becalmedFor " + when, want[5], () -> x.becalmedFor(0));
        check.due("visitsTo " + when, want[6], () -> x.visitsTo(0));
    }

    private static void aVoyage() {
        TeaRegatta x = Books.taught("bay 3,3;kettle 2,0 steams 10;customs 1,0;"
            + "clipper a home 0,0 noses 1 steers if leaf then 3 else 1;");
        stands(x, "at first", 0, 0, 0, 0, 0, 0, 0);
        check.due("isHome", true, () -> x.isHome(0));
        x.setWind(0, 1);
        int[][] due = {
            {1, 0, 0, 0, 1, 0, 0},
            {2, 6, 0, 0, 1, 5, 1},
            {2, 6, 9, 0, 1, 4, 1},
            {1, 4, 8, 0, 2, 3, 1},
            {0, 0, 8, 4, 2, 2, 1},
            {1, 0, 8, 4, 3, 1, 1},
            {2, 0, 8, 4, 3, 0, 1},
            {2, 6, 8, 4, 3, 5, 2},
        };
        for (int hour = 1; hour <= due.length; hour++) {
            int won = hour == 5 ? 4 : 0;
            check.due("sail(1) to hour " + hour, won, () -> x.sail(1));
            stands(x, "at hour " + hour, due[hour - 1]);
            int column = due[hour - 1][0];
            check.due("isHome at hour " + hour, column == 0, () -> x.isHome(0));
            int passed = hour;
            check.due("hour", passed, x::hour);
        }
    }

    private static void wayAndSpeed() {
        TeaRegatta x = Books.taught("clipper a home 3,3 noses 1 steers 0;");
        check.due("speedOf with a force of 0", 5, () -> x.speedOf(0));
        x.sail(1);
        check.due("wayOf", 5, () -> x.wayOf(0));
        check.due("rowOf", 3, () -> x.rowOf(0));
        x.sail(1);
        check.due("wayOf", 0, () -> x.wayOf(0));
        check.due("rowOf", 2, () -> x.rowOf(0));
        for (int force = 1; force <= 3; force++) {
            x.setWind(1, force);
            check.due("speedOf with a force of " + force, 10, () -> x.speedOf(0));
        }
        TeaRegatta y = Books.taught("kettle 1,1 steams 3;clipper a home 1,1 noses 1 steers -1;");
        y.sail(60);
        check.due("leafOf", 30, () -> y.leafOf(0));
        int[] more = {10, 10, 10, 10, 10, 9, 9, 9, 9, 9, 8, 8, 8, 8, 8, 7, 7, 7, 7, 7, 6, 6, 6, 6, 6, 5, 5, 5, 5, 5, 4};
        for (int leaf = 30; leaf >= 0; leaf--) {
            int now = leaf;
            y.setWind(0, 0);
            check.due("speedOf with leaf " + leaf + " and no force", more[now] / 2, () -> y.speedOf(0));
            y.setWind(0, 3);
            check.due("speedOf with leaf " + leaf, more[now], () -> y.speedOf(0));
            if (leaf > 0) {
                y.jettison(0, 1);
            }
        }
    }

    private static void fullOfLeaf() {
        TeaRegatta x = Books.taught("bay 3,3;kettle 1,1 steams 30;clipper a home 1,1 noses 1 steers -1;");
        for (int hour = 1; hour <= 30; hour++) {
            x.sail(1);
            int visits = (hour + 5) / 6;
            check.due("leafOf at hour " + hour, 6 * visits, () -> x.leafOf(0));
            check.due("visitsTo at hour " + hour, visits, () -> x.visitsTo(0));
            int calm = 5 - (hour - 1) % 6;
            check.due("becalmedFor at hour " + hour, calm, () -> x.becalmedFor(0));
        }
        x.sail(5);
        check.due("leafOf when full", 30, () -> x.leafOf(0));
        check.due("visitsTo when full", 5, () -> x.visitsTo(0));
        check.due("becalmedFor when full", 0, () -> x.becalmedFor(0));
        check.due("pointsOf without a move", 0, () -> x.pointsOf(0));
        x.jettison(0, 2);
        x.sail(1);
        check.due("leafOf", 30, () -> x.leafOf(0));
        check.due("visitsTo", 6, () -> x.visitsTo(0));
        check.due("becalmedFor", 5, () -> x.becalmedFor(0));
        x.sail(5);
        x.jettison(0, 7);
        x.sail(1);
        check.due("leafOf", 29, () -> x.leafOf(0));
    }

    private static void moves() {
        int[] columns = {2, 3, 2, 1};
        int[] rows = {1, 2, 3, 2};
        for (int direction = 0; direction < 4; direction++) {
            int d = direction;
            TeaRegatta x = Books.taught("bay 5,5;clipper a home 2,2 noses 1 steers " + (direction + 8) + ";");
            x.setWind(3 - direction, 2);
            x.sail(1);
            check.due("columnOf moved to " + d, columns[d], () -> x.columnOf(0));
            check.due("rowOf moved to " + d, rows[d], () -> x.rowOf(0));
            check.due("isHome", false, () -> x.isHome(0));
            x.sail(10);
            check.due("columnOf at the edge", d == 1 ? 4 : d == 3 ? 0 : 2, () -> x.columnOf(0));
            check.due("rowOf at the edge", d == 2 ? 4 : d == 0 ? 0 : 2, () -> x.rowOf(0));
            check.due("wayOf at the edge", 0, () -> x.wayOf(0));
        }
    }

    private static void staying() {
        TeaRegatta x = Books.taught("bay 3,3;customs 0,0;clipper a home 0,0 noses 1 steers -1;"
            + "clipper b home 0,0 noses 1 steers 0;clipper c home 0,0 noses 1 steers 3;");
        x.setWind(0, 1);
        check.due("sail", 0, () -> x.sail(5));
        for (int clipper = 0; clipper < 3; clipper++) {
            int c = clipper;
            check.due("isHome", true, () -> x.isHome(c));
            check.due("wayOf", 0, () -> x.wayOf(c));
            check.due("sipsOf without a move", 0, () -> x.sipsOf(c));
        }
    }

    /** Takes leaf at the kettle for so many hours, is left this much, and moves onto the customs. */
    private static void customsTakeSips() {
        for (int leaf = 0; leaf <= 30; leaf++) {
            int had = leaf;
            TeaRegatta x = Books.taught("bay 3,3;kettle 1,1 steams 9;customs 2,1;"
                + "clipper a home 1,1 noses 1 steers if hour<60 then -1 else 1;");
            x.sail(60);
            x.setWind(0, 1);
            x.calmKettle(0, 20);
            if (leaf < 30) {
                x.jettison(0, 30 - leaf);
            }
            x.sail(2);
            if (x.columnOf(0) == 1) {
                x.sail(1);
            }
            check.due("columnOf", 2, () -> x.columnOf(0));
            check.due("leafOf behind a sip of " + had, Math.max(0, had - had / 4 - 1), () -> x.leafOf(0));
            check.due("sipsOf", 1, () -> x.sipsOf(0));
            int left = x.leafOf(0);
            x.sail(9);
            check.due("leafOf without a move", left, () -> x.leafOf(0));
            check.due("sipsOf without a move", 1, () -> x.sipsOf(0));
        }
    }

    private static void homeWithCustomsAndKettle() {
        String clipper = "clipper a home 1,1 noses 1 steers if leaf then 3 else 1;";
        TeaRegatta x = Books.taught("bay 3,3;kettle 2,1 steams 9;customs 1,1;" + clipper);
        x.setWind(0, 1);
        check.due("sail to the kettle and back", 4, () -> x.sail(3));
        check.due("pointsOf behind the sip", 4, () -> x.pointsOf(0));
        check.due("sipsOf", 1, () -> x.sipsOf(0));
        check.due("leafOf", 0, () -> x.leafOf(0));
        // It is back without leaf, takes some at its home only then, and wins it when it is back again.
        TeaRegatta y = Books.taught("bay 3,3;kettle 1,1 steams 9;"
            + "clipper a home 1,1 noses 1 steers if hour%2 then 3 else 1;");
        y.setWind(0, 1);
        check.due("sail", 0, () -> y.sail(1));
        check.due("leafOf beside it", 0, () -> y.leafOf(0));
        check.due("sail", 0, () -> y.sail(1));
        check.due("leafOf taken behind the win", 6, () -> y.leafOf(0));
        check.due("pointsOf", 0, () -> y.pointsOf(0));
        check.due("sail", 0, () -> y.sail(1));
        check.due("becalmed when it is back", 4, () -> y.becalmedFor(0));
        check.due("sail", 0, () -> y.sail(1));
        check.due("sail back", 6, () -> y.sail(2));
    }

    private static void oneByOne() {
        String kettle = "bay 5,3;kettle 1,1 steams 30;";
        String taker = "clipper a home 0,1 noses 1 steers 1;";
        String smeller = "clipper b home 4,1 noses 4 steers if here then 3 else -1;";
        TeaRegatta x = Books.taught(kettle + taker + smeller);
        x.setWind(0, 1);
        x.sail(1);
        check.due("the first one took leaf", 6, () -> x.leafOf(0));
        check.due("the second one smells nothing then", 4, () -> x.columnOf(1));
        TeaRegatta y = Books.taught(kettle + smeller + taker);
        y.setWind(0, 1);
        y.sail(1);
        check.due("the first one smells it still", 3, () -> y.columnOf(0));
        check.due("the second one took leaf", 6, () -> y.leafOf(1));
        TeaRegatta z = Books.taught("kettle 1,1 steams 3;kettle 4,4 steams 2;"
            + "clipper a home 1,1 noses 1 steers -1;clipper b home 1,1 noses 1 steers -1;");
        z.sail(6);
        check.due("only the first one takes", 6, () -> z.leafOf(0));
        check.due("only the first one takes", 0, () -> z.leafOf(1));
        check.due("visitsTo", 1, () -> z.visitsTo(0));
        check.due("visitsTo", 0, () -> z.visitsTo(1));
        z.sail(25);
        check.due("full", 30, () -> z.leafOf(0));
        check.due("and the second one takes", 6, () -> z.leafOf(1));
    }

    private static void becalmedHours() {
        TeaRegatta x = Books.taught("kettle 1,1 steams 3;clipper a home 1,1 noses 1 steers -1;");
        x.calmKettle(0, 2);
        x.sail(2);
        check.due("becalmedFor", 0, () -> x.becalmedFor(0));
        check.due("nothing taken", 0, () -> x.leafOf(0));
        x.sail(1);
        check.due("becalmedFor in the hour of a visit", 5, () -> x.becalmedFor(0));
        x.calmKettle(0, 0);
        x.sail(1);
        check.due("visitsTo", 2, () -> x.visitsTo(0));
        check.due("becalmedFor", 5, () -> x.becalmedFor(0));
        x.calmKettle(0, 20);
        x.sail(19);
        check.due("becalmedFor", 1, () -> x.becalmedFor(0));
        check.due("leafOf", 12, () -> x.leafOf(0));
    }

    private static void sailTellsAllPoints() {
        String voyage = " noses 1 steers if leaf then 3 else 1;";
        TeaRegatta x = Books.taught("bay 5,5;kettle 1,0 steams 3;kettle 3,2 steams 4;clipper a home 0,0" + voyage
            + "clipper b home 1,2" + voyage + "clipper c home 1,4" + voyage);
        x.setWind(2, 2);
        check.due("sail(2)", 0, () -> x.sail(2));
        check.due("sail(1)", 6, () -> x.sail(1));
        check.due("sail(1)", 0, () -> x.sail(1));
        check.due("sail(1)", 6, () -> x.sail(1));
        check.due("pointsOf 0", 6, () -> x.pointsOf(0));
        check.due("pointsOf 1", 6, () -> x.pointsOf(1));
        check.due("pointsOf 2", 0, () -> x.pointsOf(2));
        TeaRegatta y = Books.taught("bay 5,5;kettle 1,0 steams 3;kettle 3,2 steams 4;clipper a home 0,0" + voyage
            + "clipper b home 1,2" + voyage + "clipper c home 1,4" + voyage);
        y.setWind(2, 2);
        check.due("sail(5)", 12, () -> y.sail(5));
        check.due("digest", x.digest(), y::digest);
    }

    private static void hoursOfSail() {
        TeaRegatta x = Books.taught("clipper a home 0,0 noses 1 steers 1;");
        for (int hours : new int[] {0, -1, 61, Integer.MAX_VALUE, Integer.MIN_VALUE}) {
            check.due("sail " + hours, Books.ARGUMENT, () -> x.sail(hours));
        }
        check.due("hour", 0, x::hour);
        check.due("columnOf", 0, () -> x.columnOf(0));
        x.sail(1);
        check.due("hour", 1, x::hour);
        x.sail(60);
        check.due("hour", 61, x::hour);
    }

    private static void jettison() {
        TeaRegatta x = Books.taught("kettle 1,1 steams 3;clipper a home 1,1 noses 1 steers -1;"
            + "clipper b home 0,0 noses 1 steers -1;");
        check.due("jettison of nothing", Books.STATE, () -> x.jettison(0, 1));
        check.due("jettison 0 of nothing", Books.ARGUMENT, () -> x.jettison(0, 0));
        x.sail(7);
        check.due("leafOf", 12, () -> x.leafOf(0));
        check.due("jettison 0", Books.ARGUMENT, () -> x.jettison(0, 0));
        check.due("jettison -1", Books.ARGUMENT, () -> x.jettison(0, -1));
        check.due("jettison MIN", Books.ARGUMENT, () -> x.jettison(0, Integer.MIN_VALUE));
        check.due("jettison 13", Books.STATE, () -> x.jettison(0, 13));
        check.due("jettison MAX", Books.STATE, () -> x.jettison(0, Integer.MAX_VALUE));
        check.due("jettison of the other one", Books.STATE, () -> x.jettison(1, 1));
        check.due("leafOf", 12, () -> x.leafOf(0));
        check.due("jettison 5", 7, () -> x.jettison(0, 5));
        check.due("leafOf", 7, () -> x.leafOf(0));
        check.due("jettison 7", 0, () -> x.jettison(0, 7));
        check.due("leafOf", 0, () -> x.leafOf(0));
        check.due("jettison 1", Books.STATE, () -> x.jettison(0, 1));
        check.due("pointsOf", 0, () -> x.pointsOf(0));
        check.due("sipsOf", 0, () -> x.sipsOf(0));
    }

    private static void leader() {
        TeaRegatta x = Books.taught("bay 3,3;kettle 0,0 steams 9;kettle 2,2 steams 9;kettle 2,1 steams 9;"
            + "clipper a home 1,1 noses 1 steers if hour<3 then -1 else if leaf then 3 else 1;"
            + "clipper b home 0,0 noses 1 steers -1;clipper c home 2,2 noses 1 steers -1;");
        x.setWind(0, 1);
        check.due("the smallest number", 0, x::leader);
        x.sail(1);
        check.due("the most leaf, the smallest number", 1, x::leader);
        x.jettison(1, 1);
        check.due("the most leaf", 2, x::leader);
        x.jettison(2, 2);
        check.due("the most leaf", 1, x::leader);
        x.sail(5);
        check.due("points of 0", 6, () -> x.pointsOf(0));
        check.due("leaf of 0", 0, () -> x.leafOf(0));
        check.due("the most points", 0, x::leader);
        TeaRegatta y = Books.taught("bay 3,3;kettle 2,0 steams 9;clipper a home 0,0 noses 1 steers -1;"
            + "clipper b home 1,0 noses 1 steers if leaf then 3 else 1;");
        y.setWind(0, 1);
        y.sail(3);
        check.due("the most points", 1, y::leader);
        TeaRegatta z = Books.taught("clipper a home 0,0 noses 1 steers -1;");
        check.due("the only one", 0, z::leader);
    }

    private static void sixOfAll() {
        StringBuilder book = new StringBuilder();
        for (int number = 0; number < 6; number++) {
            book.append("kettle ").append(number).append(",1 steams 9;customs ").append(number).append(",3;");
            book.append("clipper ").append((char) ('a' + number)).append(" home ").append(number).append(",0 noses 2");
            book.append(" steers if leaf then 0 else ").append(number < 5 ? -1 : 2).append(";");
        }
        TeaRegatta x = Books.taught(book.toString());
        x.setWind(0, 1);
        check.due("hoursUntilPoints", 3, () -> x.hoursUntilPoints(5));
        check.due("sail", 6, () -> x.sail(3));
        check.due("leader", 5, x::leader);
        check.due("meanPoints", 1.0, x::meanPoints);
        for (int number = 0; number < 6; number++) {
            int n = number;
            check.due("pointsOf " + n, n == 5 ? 6 : 0, () -> x.pointsOf(n));
            check.due("columnOf " + n, n, () -> x.columnOf(n));
            check.due("rowOf " + n, 0, () -> x.rowOf(n));
            check.due("becalmedFor " + n, n == 5 ? 3 : 0, () -> x.becalmedFor(n));
            check.due("hasCustoms " + n, true, () -> x.hasCustoms(n, 3));
        }
    }
}
