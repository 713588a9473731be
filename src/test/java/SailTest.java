/** Promises 17 to 25, 30, 32 and 34: how hours go by, and what is done to clippers by hand. */
public final class SailTest {
    private static final Check check = new Check();

    public static void main(String[] args) {
        check.sentence("An hour goes like this", SailTest::aVoyage);
        check.sentence("Each is at a cell (home, at first), and has leaf .. way .. points (0, at first).", SailTest::atFirst);
        check.sentence("It has 10 more way, less leaf / 5; with a force of 0 only half of that (both cut).",
            SailTest::wayAndSpeed);
        check.sentence("If that is 10 or more, it has 10 less, and steers", SailTest::wayOfTen);
        check.sentence("some way, 0 to 9", SailTest::wayOfNine);
        check.sentence("leaf, 0 to 30", SailTest::fullOfLeaf);
        check.sentence("less than 30 leaf, it takes 6, or what is missing to 30", SailTest::whatIsMissing);
        check.sentence("it is at the next cell in this direction, if there is one", SailTest::moves);
        check.sentence("otherwise, and if it stays, where it is", SailTest::staying);
        check.sentence("leaf / 4 and 1 less, at least 0, which is a sip", SailTest::customsTakeSips);
        check.sentence("At its home it wins as many points as it has leaf, and has none.", SailTest::pointsOfLeaf);
        check.sentence("If it moved: at a cell with customs .. At its home .. Moved or not: ..",
            SailTest::homeWithCustomsAndKettle);
        check.sentence("Each clipper, by numbers.", SailTest::oneByOne);
        check.sentence("the kettle is becalmed for 5 hours from now on", SailTest::becalmedInTheHour);
        check.sentence("Each kettle that is becalmed, and was so as the hour began, is so for an hour less.",
            SailTest::becalmedAsTheHourBegan);
        check.sentence("Returns how many points are won in them.", SailTest::sailTellsAllPoints);
        check.sentence("The hour is 1 greater.", SailTest::hoursOfSail);
        check.sentence("Throws leaf of a clipper over board.", SailTest::jettison);
        check.sentence("leader: the clipper with the most points", SailTest::leader);
        check.sentence("of several the one with the most leaf, of several still the one with the smallest number",
            SailTest::leaderOfSeveral);
        check.sentence("leader throws IllegalStateException if there are no clippers", SailTest::noLeader);
        check.sentence("Kettles, customs and clippers are numbered from 0", SailTest::sixOfAll);
        check.end();
    }

    /** Column, leaf, way, points and sips of clipper 0, then becalmedFor and visitsTo of kettle 0. */
    private static void stands(TeaRegatta x, String when, int... want) {
        check.due("columnOf " + when, want[0], () -> x.columnOf(0));
        check.due("leafOf " + when, want[1], () -> x.leafOf(0));
        check.due("wayOf " + when, want[2], () -> x.wayOf(0));
        check.due("pointsOf " + when, want[3], () -> x.pointsOf(0));
        check.due("sipsOf " + when, want[4], () -> x.sipsOf(0));
        check.due("becalmedFor " + when, want[5], () -> x.becalmedFor(0));
        check.due("visitsTo " + when, want[6], () -> x.visitsTo(0));
    }

    private static void aVoyage() {
        TeaRegatta x = Books.taught("bay 3,3;kettle 2,0 steams 10;customs 1,0;"
            + "clipper a home 0,0 noses 1 steers if leaf then 3 else 1;");
        stands(x, "at first", 0, 0, 0, 0, 0, 0, 0);
        check.due("isHome", true, () -> x.isHome(0));
        x.setWind(0, 1);
        int[][] due = {
            {1, 0, 0, 0, 1, 0, 0},
            {2, 6, 0, 0, 1, 5, 1},
            {2, 6, 9, 0, 1, 4, 1},
            {1, 4, 8, 0, 2, 3, 1},
            {0, 0, 8, 4, 2, 2, 1},
            {1, 0, 8, 4, 3, 1, 1},
            {2, 0, 8, 4, 3, 0, 1},
            {2, 6, 8, 4, 3, 5, 2},
        };
        for (int hour = 1; hour <= due.length; hour++) {
            int won = hour == 5 ? 4 : 0;
            check.due("sail(1) to hour " + hour, won, () -> x.sail(1));
            stands(x, "at hour " + hour, due[hour - 1]);
            int column = due[hour - 1][0];
            check.due("isHome at hour " + hour, column == 0, () -> x.isHome(0));
            int passed = hour;
            check.due("hour", passed, x::hour);
        }
    }

    private static void wayAndSpeed() {
        TeaRegatta x = Books.taught("clipper a home 3,3 noses 1 steers 0;");
        check.due("speedOf with a force of 0", 5, () -> x.speedOf(0));
        x.sail(1);
        check.due("wayOf", 5, () -> x.wayOf(0));
        check.due("rowOf", 3, () -> x.rowOf(0));
        x.sail(1);
        check.due("wayOf", 0, () -> x.wayOf(0));
        check.due("rowOf", 2, () -> x.rowOf(0));
        for (int force = 1; force <= 3; force++) {
            x.setWind(1, force);
            check.due("speedOf with a force of " + force, 10, () -> x.speedOf(0));
        }
        TeaRegatta y = Books.taught("kettle 1,1 steams 3;clipper a home 1,1 noses 1 steers -1;");
        y.sail(60);
        check.due("leafOf", 30, () -> y.leafOf(0));
        int[] more = {10, 10, 10, 10, 10, 9, 9, 9, 9, 9, 8, 8, 8, 8, 8, 7, 7, 7, 7, 7, 6, 6, 6, 6, 6, 5, 5, 5, 5, 5, 4};
        for (int leaf = 30; leaf >= 0; leaf--) {
            int now = leaf;
            y.setWind(0, 0);
            check.due("speedOf with leaf " + leaf + " and no force", more[now] / 2, () -> y.speedOf(0));
            y.setWind(0, 3);
            check.due("speedOf with leaf " + leaf, more[now], () -> y.speedOf(0));
            if (leaf > 0) {
                y.jettison(0, 1);
            }
        }
    }

    private static void atFirst() {
        TeaRegatta x = Books.taught("bay 3,3;kettle 2,1 steams 5;customs 1,1;"
            + "clipper a home 2,1 noses 1 steers 1;clipper b home 1,1 noses 1 steers 1;");
        for (int clipper = 0; clipper < 2; clipper++) {
            int c = clipper;
            check.due("columnOf", 2 - c, () -> x.columnOf(c));
            check.due("rowOf", 1, () -> x.rowOf(c));
            check.due("isHome", true, () -> x.isHome(c));
            check.due("leafOf", 0, () -> x.leafOf(c));
            check.due("wayOf", 0, () -> x.wayOf(c));
            check.due("pointsOf", 0, () -> x.pointsOf(c));
            check.due("sipsOf", 0, () -> x.sipsOf(c));
        }
    }

    /** A clipper on a kettle at 1,1, which it leaves to the east in the second hour. */
    private static TeaRegatta leaving() {
        TeaRegatta x = Books.taught("bay 12,3;kettle 1,1 steams 9;clipper a home 1,1 noses 1 steers if leaf then 1 else -1;");
        x.setWind(0, 1);
        x.sail(1);
        return x;
    }

    private static void way(TeaRegatta x, String when, int way, int column) {
        check.due("wayOf " + when, way, () -> x.wayOf(0));
        check.due("columnOf " + when, column, () -> x.columnOf(0));
    }

    /** With a way of just 10 it moves; with 9 it does not. */
    private static void wayOfTen() {
        TeaRegatta x = leaving();
        x.jettison(0, 2);
        check.due("speedOf", 10, () -> x.speedOf(0));
        x.sail(1);
        way(x, "behind 10 in an hour", 0, 2);
        TeaRegatta y = leaving();
        check.due("speedOf", 9, () -> y.speedOf(0));
        y.sail(1);
        way(y, "of 9", 9, 1);
        TeaRegatta z = Books.taught("bay 12,3;clipper a home 1,1 noses 1 steers 1;");
        z.sail(1);
        way(z, "of 5", 5, 1);
        z.sail(1);
        way(z, "behind 5 in each of two hours", 0, 2);
        z.setWind(0, 1);
        z.sail(3);
        way(z, "behind 10 in each of three hours", 0, 5);
        z.setWind(0, 0);
        z.sail(3);
        way(z, "behind 5 in each of three hours", 5, 6);
        z.setWind(0, 1);
        z.sail(1);
        way(z, "behind 15", 5, 7);
    }

    /** From 9 it goes on to 18 with 6 leaf, and to 19 without. */
    private static void wayOfNine() {
        TeaRegatta x = leaving();
        x.sail(1);
        way(x, "of 9", 9, 1);
        x.sail(1);
        way(x, "behind 18", 8, 2);
        TeaRegatta y = leaving();
        y.sail(1);
        y.jettison(0, 5);
        y.sail(1);
        way(y, "behind 19", 9, 2);
        y.sail(1);
        way(y, "behind 19", 9, 3);
        y.jettison(0, 1);
        y.sail(1);
        way(y, "when it stays behind 19", 9, 3);
    }

    private static void fullOfLeaf() {
        TeaRegatta x = Books.taught("bay 3,3;kettle 1,1 steams 30;clipper a home 1,1 noses 1 steers -1;");
        for (int hour = 1; hour <= 30; hour++) {
            x.sail(1);
            int visits = (hour + 5) / 6;
            check.due("leafOf at hour " + hour, 6 * visits, () -> x.leafOf(0));
            check.due("visitsTo at hour " + hour, visits, () -> x.visitsTo(0));
            int calm = 5 - (hour - 1) % 6;
            check.due("becalmedFor at hour " + hour, calm, () -> x.becalmedFor(0));
        }
        x.sail(5);
        check.due("leafOf when full", 30, () -> x.leafOf(0));
        check.due("visitsTo when full", 5, () -> x.visitsTo(0));
        check.due("becalmedFor when full", 0, () -> x.becalmedFor(0));
        check.due("pointsOf without a move", 0, () -> x.pointsOf(0));
        x.jettison(0, 2);
        x.sail(1);
        check.due("leafOf", 30, () -> x.leafOf(0));
        check.due("visitsTo", 6, () -> x.visitsTo(0));
        check.due("becalmedFor", 5, () -> x.becalmedFor(0));
        x.sail(5);
        x.jettison(0, 7);
        x.sail(1);
        check.due("leafOf", 29, () -> x.leafOf(0));
    }

    private static void whatIsMissing() {
        for (int leaf = 0; leaf <= 30; leaf++) {
            int has = leaf;
            TeaRegatta x = Books.taught("kettle 1,1 steams 3;clipper a home 1,1 noses 1 steers -1;");
            x.sail(60);
            check.due("full", 30, () -> x.leafOf(0));
            check.due("the kettle steams", 0, () -> x.becalmedFor(0));
            if (leaf < 30) {
                x.jettison(0, 30 - leaf);
            }
            check.due("sail", 0, () -> x.sail(1));
            check.due("leafOf behind " + has, has < 24 ? has + 6 : 30, () -> x.leafOf(0));
            check.due("visitsTo behind " + has, has < 30 ? 6 : 5, () -> x.visitsTo(0));
            check.due("becalmedFor behind " + has, has < 30 ? 5 : 0, () -> x.becalmedFor(0));
            check.due("hasSteam behind " + has, has == 30, () -> x.hasSteam(1, 1));
        }
    }

    private static void moves() {
        int[] columns = {2, 3, 2, 1};
        int[] rows = {1, 2, 3, 2};
        for (int direction = 0; direction < 4; direction++) {
            int d = direction;
            TeaRegatta x = Books.taught("bay 5,5;clipper a home 2,2 noses 1 steers " + (direction + 8) + ";");
            x.setWind(3 - direction, 2);
            x.sail(1);
            check.due("columnOf moved to " + d, columns[d], () -> x.columnOf(0));
            check.due("rowOf moved to " + d, rows[d], () -> x.rowOf(0));
            check.due("isHome", false, () -> x.isHome(0));
            x.sail(10);
            check.due("columnOf at the edge", d == 1 ? 4 : d == 3 ? 0 : 2, () -> x.columnOf(0));
            check.due("rowOf at the edge", d == 2 ? 4 : d == 0 ? 0 : 2, () -> x.rowOf(0));
            check.due("wayOf at the edge", 0, () -> x.wayOf(0));
        }
    }

    private static void staying() {
        TeaRegatta x = Books.taught("bay 3,3;customs 0,0;clipper a home 0,0 noses 1 steers -1;"
            + "clipper b home 0,0 noses 1 steers 0;clipper c home 0,0 noses 1 steers 3;");
        x.setWind(0, 1);
        check.due("sail", 0, () -> x.sail(5));
        for (int clipper = 0; clipper < 3; clipper++) {
            int c = clipper;
            check.due("isHome", true, () -> x.isHome(c));
            check.due("wayOf", 0, () -> x.wayOf(c));
            check.due("sipsOf without a move", 0, () -> x.sipsOf(c));
        }
    }

    /** Takes leaf at the kettle for so many hours, is left this much, and moves onto the customs. */
    private static void customsTakeSips() {
        for (int leaf = 0; leaf <= 30; leaf++) {
            int had = leaf;
            TeaRegatta x = Books.taught("bay 3,3;kettle 1,1 steams 9;customs 2,1;"
                + "clipper a home 1,1 noses 1 steers if hour<60 then -1 else 1;");
            x.sail(60);
            x.setWind(0, 1);
            x.calmKettle(0, 20);
            if (leaf < 30) {
                x.jettison(0, 30 - leaf);
            }
            x.sail(2);
            if (x.columnOf(0) == 1) {
                x.sail(1);
            }
            check.due("columnOf", 2, () -> x.columnOf(0));
            check.due("leafOf behind a sip of " + had, Math.max(0, had - had / 4 - 1), () -> x.leafOf(0));
            check.due("sipsOf", 1, () -> x.sipsOf(0));
            int left = x.leafOf(0);
            x.sail(9);
            check.due("leafOf without a move", left, () -> x.leafOf(0));
            check.due("sipsOf without a move", 1, () -> x.sipsOf(0));
        }
    }

    /** Comes home with 0 to 6 leaf, which is all it has. */
    private static void pointsOfLeaf() {
        for (int leaf = 0; leaf <= 6; leaf++) {
            int has = leaf;
            TeaRegatta x = Books.taught("bay 3,3;kettle 1,0 steams 9;clipper a home 0,0 noses 1 steers if hour=0 then 1 else 3;");
            x.setWind(0, 1);
            x.sail(1);
            if (leaf < 6) {
                x.jettison(0, 6 - leaf);
            }
            check.due("sail home with " + has, has, () -> x.sail(2));
            check.due("pointsOf with " + has, has, () -> x.pointsOf(0));
            check.due("leafOf with " + has, 0, () -> x.leafOf(0));
            check.due("isHome", true, () -> x.isHome(0));
        }
    }

    private static void homeWithCustomsAndKettle() {
        String clipper = "clipper a home 1,1 noses 1 steers if leaf then 3 else 1;";
        TeaRegatta x = Books.taught("bay 3,3;kettle 2,1 steams 9;customs 1,1;" + clipper);
        x.setWind(0, 1);
        check.due("sail to the kettle and back", 4, () -> x.sail(3));
        check.due("pointsOf behind the sip", 4, () -> x.pointsOf(0));
        check.due("sipsOf", 1, () -> x.sipsOf(0));
        check.due("leafOf", 0, () -> x.leafOf(0));
        // It is back without leaf, takes some at its home only then, and wins it when it is back again.
        TeaRegatta y = Books.taught("bay 3,3;kettle 1,1 steams 9;"
            + "clipper a home 1,1 noses 1 steers if hour%2 then 3 else 1;");
        y.setWind(0, 1);
        check.due("sail", 0, () -> y.sail(1));
        check.due("leafOf beside it", 0, () -> y.leafOf(0));
        check.due("sail", 0, () -> y.sail(1));
        check.due("leafOf taken behind the win", 6, () -> y.leafOf(0));
        check.due("pointsOf", 0, () -> y.pointsOf(0));
        check.due("sail", 0, () -> y.sail(1));
        check.due("becalmed when it is back", 4, () -> y.becalmedFor(0));
        check.due("sail", 0, () -> y.sail(1));
        check.due("sail back", 6, () -> y.sail(2));
    }

    private static void oneByOne() {
        String kettle = "bay 5,3;kettle 1,1 steams 30;";
        String taker = "clipper a home 0,1 noses 1 steers 1;";
        String smeller = "clipper b home 4,1 noses 4 steers if here then 3 else -1;";
        TeaRegatta x = Books.taught(kettle + taker + smeller);
        x.setWind(0, 1);
        x.sail(1);
        check.due("the first one took leaf", 6, () -> x.leafOf(0));
        check.due("the second one smells nothing then", 4, () -> x.columnOf(1));
        TeaRegatta y = Books.taught(kettle + smeller + taker);
        y.setWind(0, 1);
        y.sail(1);
        check.due("the first one smells it still", 3, () -> y.columnOf(0));
        check.due("the second one took leaf", 6, () -> y.leafOf(1));
        TeaRegatta z = Books.taught("kettle 1,1 steams 3;kettle 4,4 steams 2;"
            + "clipper a home 1,1 noses 1 steers -1;clipper b home 1,1 noses 1 steers -1;");
        z.sail(6);
        check.due("only the first one takes", 6, () -> z.leafOf(0));
        check.due("only the first one takes", 0, () -> z.leafOf(1));
        check.due("visitsTo", 1, () -> z.visitsTo(0));
        check.due("visitsTo", 0, () -> z.visitsTo(1));
        z.sail(25);
        check.due("full", 30, () -> z.leafOf(0));
        check.due("and the second one takes", 6, () -> z.leafOf(1));
    }

    /** What is becalmed in the hour itself stays so for all of its 5 hours. */
    private static void becalmedInTheHour() {
        TeaRegatta x = Books.taught("kettle 1,1 steams 3;kettle 4,4 steams 3;clipper a home 1,1 noses 1 steers -1;");
        x.sail(1);
        for (int hours = 5; hours >= 0; hours--) {
            int left = hours;
            check.due("becalmedFor", left, () -> x.becalmedFor(0));
            check.due("hasSteam", left == 0, () -> x.hasSteam(1, 1));
            check.due("visitsTo", 1, () -> x.visitsTo(0));
            check.due("leafOf", 6, () -> x.leafOf(0));
            check.due("the other kettle", 0, () -> x.becalmedFor(1));
            if (hours > 0) {
                x.sail(1);
            }
        }
        x.sail(1);
        check.due("visitsTo", 2, () -> x.visitsTo(0));
        check.due("becalmedFor", 5, () -> x.becalmedFor(0));
        x.calmKettle(0, 0);
        x.sail(1);
        check.due("visitsTo behind steam by hand", 3, () -> x.visitsTo(0));
        check.due("becalmedFor behind steam by hand", 5, () -> x.becalmedFor(0));
        TeaRegatta y = Books.taught("bay 3,3;kettle 1,0 steams 3;clipper a home 0,0 noses 1 steers 1;");
        y.setWind(0, 1);
        y.sail(1);
        check.due("becalmedFor behind a move there", 5, () -> y.becalmedFor(0));
        y.sail(1);
        check.due("becalmedFor behind the next hour", 4, () -> y.becalmedFor(0));
    }

    /** The hour in which the last one of its hours goes by is one in which it does not steam. */
    private static void becalmedAsTheHourBegan() {
        for (int hours = 1; hours <= 20; hours++) {
            int calm = hours;
            TeaRegatta x = Books.taught("kettle 1,1 steams 3;clipper a home 1,1 noses 1 steers -1;");
            x.calmKettle(0, hours);
            x.sail(1);
            check.due("becalmedFor", calm - 1, () -> x.becalmedFor(0));
            if (hours > 1) {
                x.sail(hours - 1);
            }
            check.due("becalmedFor behind " + calm, 0, () -> x.becalmedFor(0));
            check.due("hasSteam behind " + calm, true, () -> x.hasSteam(1, 1));
            check.due("nothing taken behind " + calm, 0, () -> x.leafOf(0));
            x.sail(1);
            check.due("taken in the hour behind " + calm, 6, () -> x.leafOf(0));
            check.due("becalmedFor in the hour behind " + calm, 5, () -> x.becalmedFor(0));
        }
        TeaRegatta y = Books.taught("kettle 1,1 steams 3;kettle 2,2 steams 3;kettle 3,3 steams 3;");
        y.calmKettle(0, 1);
        y.calmKettle(2, 3);
        int[][] left = {{0, 0, 2}, {0, 0, 1}, {0, 0, 0}, {0, 0, 0}};
        for (int[] now : left) {
            y.sail(1);
            for (int kettle = 0; kettle < 3; kettle++) {
                int k = kettle;
                check.due("becalmedFor " + k, now[k], () -> y.becalmedFor(k));
            }
        }
    }

    private static void sailTellsAllPoints() {
        String voyage = " noses 1 steers if leaf then 3 else 1;";
        TeaRegatta x = Books.taught("bay 5,5;kettle 1,0 steams 3;kettle 3,2 steams 4;clipper a home 0,0" + voyage
            + "clipper b home 1,2" + voyage + "clipper c home 1,4" + voyage);
        x.setWind(2, 2);
        check.due("sail(2)", 0, () -> x.sail(2));
        check.due("sail(1)", 6, () -> x.sail(1));
        check.due("sail(1)", 0, () -> x.sail(1));
        check.due("sail(1)", 6, () -> x.sail(1));
        check.due("pointsOf 0", 6, () -> x.pointsOf(0));
        check.due("pointsOf 1", 6, () -> x.pointsOf(1));
        check.due("pointsOf 2", 0, () -> x.pointsOf(2));
        TeaRegatta y = Books.taught("bay 5,5;kettle 1,0 steams 3;kettle 3,2 steams 4;clipper a home 0,0" + voyage
            + "clipper b home 1,2" + voyage + "clipper c home 1,4" + voyage);
        y.setWind(2, 2);
        check.due("sail(5)", 12, () -> y.sail(5));
        check.due("digest", x.digest(), y::digest);
    }

    private static void hoursOfSail() {
        TeaRegatta x = Books.taught("clipper a home 0,0 noses 1 steers 1;");
        check.due("hour", 0, x::hour);
        x.sail(1);
        check.due("hour", 1, x::hour);
        x.sail(60);
        check.due("hour", 61, x::hour);
    }

    private static void jettison() {
        TeaRegatta x = Books.taught("kettle 1,1 steams 3;clipper a home 1,1 noses 1 steers -1;"
            + "clipper b home 0,0 noses 1 steers -1;");
        x.sail(7);
        check.due("jettison of the other one", Books.STATE, () -> x.jettison(1, 1));
        check.due("leafOf", 12, () -> x.leafOf(0));
        check.due("jettison 5", 7, () -> x.jettison(0, 5));
        check.due("leafOf", 7, () -> x.leafOf(0));
        check.due("jettison 7", 0, () -> x.jettison(0, 7));
        check.due("leafOf", 0, () -> x.leafOf(0));
        check.due("pointsOf", 0, () -> x.pointsOf(0));
        check.due("sipsOf", 0, () -> x.sipsOf(0));
    }

    private static void leader() {
        TeaRegatta x = Books.taught("bay 3,3;kettle 0,0 steams 9;kettle 2,2 steams 9;kettle 2,1 steams 9;"
            + "clipper a home 1,1 noses 1 steers if hour<3 then -1 else if leaf then 3 else 1;"
            + "clipper b home 0,0 noses 1 steers -1;clipper c home 2,2 noses 1 steers -1;");
        x.setWind(0, 1);
        check.due("the smallest number", 0, x::leader);
        x.sail(1);
        check.due("the most leaf, the smallest number", 1, x::leader);
        x.jettison(1, 1);
        check.due("the most leaf", 2, x::leader);
        x.jettison(2, 2);
        check.due("the most leaf", 1, x::leader);
        x.sail(5);
        check.due("points of 0", 6, () -> x.pointsOf(0));
        check.due("leaf of 0", 0, () -> x.leafOf(0));
        check.due("the most points", 0, x::leader);
        TeaRegatta y = Books.taught("bay 3,3;kettle 2,0 steams 9;clipper a home 0,0 noses 1 steers -1;"
            + "clipper b home 1,0 noses 1 steers if leaf then 3 else 1;");
        y.setWind(0, 1);
        y.sail(3);
        check.due("the most points", 1, y::leader);
        TeaRegatta z = Books.taught("clipper a home 0,0 noses 1 steers -1;");
        check.due("the only one", 0, z::leader);
    }

    /** Two clippers that won 5 or 6 points each, and carry 5 or 6 leaf then. */
    private static TeaRegatta twoOf(int points, int otherPoints, int leaf, int otherLeaf) {
        String voyage = " noses 1 steers if leaf then 3 else 1;";
        TeaRegatta x = Books.taught("bay 3,3;kettle 2,0 steams 9;kettle 2,2 steams 9;clipper a home 1,0" + voyage
            + "clipper b home 1,2" + voyage);
        x.setWind(0, 1);
        x.sail(1);
        leave(x, 0, points);
        leave(x, 1, otherPoints);
        x.sail(6);
        leave(x, 0, leaf);
        leave(x, 1, otherLeaf);
        return x;
    }

    private static void leave(TeaRegatta x, int clipper, int leaf) {
        if (x.leafOf(clipper) > leaf) {
            x.jettison(clipper, x.leafOf(clipper) - leaf);
        }
    }

    private static void leaderOfSeveral() {
        for (int some = 0; some < 16; some++) {
            int[] points = {5 + (some & 1), 5 + (some >> 1 & 1)};
            int[] leaf = {5 + (some >> 2 & 1), 5 + (some >> 3 & 1)};
            TeaRegatta x = twoOf(points[0], points[1], leaf[0], leaf[1]);
            for (int clipper = 0; clipper < 2; clipper++) {
                int c = clipper;
                check.due("pointsOf " + c, points[c], () -> x.pointsOf(c));
                check.due("leafOf " + c, leaf[c], () -> x.leafOf(c));
            }
            boolean second = points[1] > points[0] || points[1] == points[0] && leaf[1] > leaf[0];
            check.due("leader of points " + points[0] + " and " + points[1] + ", leaf " + leaf[0] + " and " + leaf[1],
                second ? 1 : 0, x::leader);
        }
        StringBuilder six = new StringBuilder();
        for (int clipper = 0; clipper < 6; clipper++) {
            six.append("clipper ").append((char) ('a' + clipper)).append(" home 0,").append(clipper)
                .append(" noses 1 steers -1;");
            check.due("leader of some without points and leaf", 0, () -> Books.taught(six.toString()).leader());
        }
        for (int kettle = 0; kettle < 6; kettle++) {
            int k = kettle;
            TeaRegatta x = Books.taught("kettle 0," + kettle + " steams 1;" + six);
            x.sail(1);
            check.due("leader by leaf", k, x::leader);
        }
    }

    private static void noLeader() {
        check.due("leader of a new object", Books.STATE, () -> new TeaRegatta().leader());
        TeaRegatta x = Books.taught("kettle 1,1 steams 9;customs 2,2;");
        check.due("leader without clippers", Books.STATE, x::leader);
        Books.teach(x, Books.CLIPPER + "1;");
        check.due("leader of one", 0, x::leader);
        x.teach();
        check.due("leader without clippers again", Books.STATE, x::leader);
    }

    private static void sixOfAll() {
        StringBuilder book = new StringBuilder();
        for (int number = 0; number < 6; number++) {
            book.append("kettle ").append(number).append(",1 steams 9;customs ").append(number).append(",3;");
            book.append("clipper ").append((char) ('a' + number)).append(" home ").append(number).append(",0 noses 2");
            book.append(" steers if leaf then 0 else ").append(number < 5 ? -1 : 2).append(";");
        }
        TeaRegatta x = Books.taught(book.toString());
        x.setWind(0, 1);
        check.due("hoursUntilPoints", 3, () -> x.hoursUntilPoints(5));
        check.due("sail", 6, () -> x.sail(3));
        check.due("leader", 5, x::leader);
        check.due("meanPoints", 1.0, x::meanPoints);
        for (int number = 0; number < 6; number++) {
            int n = number;
            check.due("pointsOf " + n, n == 5 ? 6 : 0, () -> x.pointsOf(n));
            check.due("columnOf " + n, n, () -> x.columnOf(n));
            check.due("rowOf " + n, 0, () -> x.rowOf(n));
            check.due("becalmedFor " + n, n == 5 ? 3 : 0, () -> x.becalmedFor(n));
            check.due("hasCustoms " + n, true, () -> x.hasCustoms(n, 3));
        }
    }
}
