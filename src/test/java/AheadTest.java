/** Promises 35 to 39: what would be, the mean points and the digest. */
public final class AheadTest {
    private static final Check check = new Check();
    private static final String VOYAGE = "bay 3,3;kettle 2,0 steams 10;customs 1,0;"
        + "clipper a home 0,0 noses 1 steers if leaf then 3 else 1;clipper b home 1,1 noses 1 steers -1;";

    public static void main(String[] args) {
        pointsBehind();
        hoursUntilPoints();
        hoursUntilPointsAtMost120();
        bestWind();
        bestWindKeepsTheForce();
        wrongHours();
        meanPoints();
        digest();
        check.end();
    }

    private static void pointsBehind() {
        TeaRegatta x = Books.taught(VOYAGE);
        x.setWind(0, 1);
        long digest = x.digest();
        check.due("pointsBehind 1", 0, () -> x.pointsBehind(0, 1));
        check.due("pointsBehind 4", 0, () -> x.pointsBehind(0, 4));
        check.due("pointsBehind 5", 4, () -> x.pointsBehind(0, 5));
        check.due("pointsBehind 9", 4, () -> x.pointsBehind(0, 9));
        check.due("pointsBehind 10", 8, () -> x.pointsBehind(0, 10));
        check.due("of the other one", 0, () -> x.pointsBehind(1, 60));
        check.due("digest", digest, x::digest);
        x.sail(4);
        check.due("pointsBehind 1", 4, () -> x.pointsBehind(0, 1));
        x.sail(1);
        check.due("pointsBehind 1", 4, () -> x.pointsBehind(0, 1));
        check.due("pointsBehind 4", 4, () -> x.pointsBehind(0, 4));
        check.due("pointsBehind 5", 8, () -> x.pointsBehind(0, 5));
        for (int hours = 1; hours <= 60; hours++) {
            TeaRegatta y = Books.taught(VOYAGE);
            y.setWind(0, 1);
            int told = y.pointsBehind(0, hours);
            y.sail(hours);
            check.due("pointsOf behind " + hours, told, () -> y.pointsOf(0));
        }
    }

    private static void hoursUntilPoints() {
        TeaRegatta x = Books.taught(VOYAGE);
        x.setWind(0, 1);
        long digest = x.digest();
        check.due("hoursUntilPoints", 5, () -> x.hoursUntilPoints(0));
        check.due("never", -1, () -> x.hoursUntilPoints(1));
        check.due("digest", digest, x::digest);
        x.sail(4);
        check.due("hoursUntilPoints", 1, () -> x.hoursUntilPoints(0));
        x.sail(1);
        check.due("more than now", 5, () -> x.hoursUntilPoints(0));
        check.due("without clippers", Books.OUT_OF_BOUNDS, () -> new TeaRegatta().hoursUntilPoints(0));
    }

    private static TeaRegatta homeLate() {
        TeaRegatta x = Books.taught("bay 3,3;kettle 1,0 steams 9;"
            + "clipper a home 0,0 noses 1 steers if hour<150 then if leaf then -1 else 1 else 3;");
        x.setWind(1, 2);
        return x;
    }

    private static void hoursUntilPointsAtMost120() {
        TeaRegatta twin = homeLate();
        int hours = 0;
        while (twin.pointsOf(0) == 0 && hours < 200) {
            twin.sail(1);
            hours++;
        }
        int won = hours;
        check.due("it is home behind 150 hours", true, () -> won > 150 && won < 160);
        check.due("points", 30, () -> twin.pointsOf(0));
        check.due("never again", -1, () -> twin.hoursUntilPoints(0));
        TeaRegatta x = homeLate();
        for (int hour = 0; hour < won - 121; hour++) {
            x.sail(1);
        }
        check.due("121 hours ahead", -1, () -> x.hoursUntilPoints(0));
        x.sail(1);
        check.due("120 hours ahead", 120, () -> x.hoursUntilPoints(0));
        x.sail(59);
        check.due("61 hours ahead", 0, () -> x.pointsBehind(0, 60));
        x.sail(1);
        check.due("60 hours ahead", 30, () -> x.pointsBehind(0, 60));
        check.due("60 hours ahead", 0, () -> x.pointsBehind(0, 59));
        check.due("60 hours ahead", 60, () -> x.hoursUntilPoints(0));
    }

    private static void bestWind() {
        String[] kettles = {"kettle 2,1 steams 9;", "kettle 3,2 steams 9;", "kettle 2,3 steams 9;", "kettle 1,2 steams 9;"};
        String clippers = "clipper b home 4,4 noses 1 steers -1;clipper a home 2,2 noses 1 steers if leaf then wind+2 else wind;";
        for (int direction = 0; direction < 4; direction++) {
            int d = direction;
            TeaRegatta x = Books.taught("bay 5,5;" + kettles[direction] + clippers);
            x.setWind((direction + 1) % 4, 1);
            long digest = x.digest();
            check.due("bestWind", d, () -> x.bestWind(1, 3));
            check.due("bestWind", d, () -> x.bestWind(1, 60));
            check.due("too early for points", 0, () -> x.bestWind(1, 2));
            check.due("of the one that stays", 0, () -> x.bestWind(0, 60));
            check.due("digest", digest, x::digest);
            check.due("windDirection", (d + 1) % 4, x::windDirection);
        }
        TeaRegatta y = Books.taught("bay 5,5;" + kettles[3] + kettles[1] + clippers);
        y.setWind(3, 1);
        check.due("of several the smallest number", 1, () -> y.bestWind(1, 5));
        y.calmKettle(1, 20);
        check.due("with the kettles of now", 3, () -> y.bestWind(1, 5));
        check.due("pointsBehind with the wind of now", 6, () -> y.pointsBehind(1, 5));
        y.setWind(1, 1);
        check.due("pointsBehind with the wind of now", 0, () -> y.pointsBehind(1, 5));
        TeaRegatta z = Books.taught("bay 5,5;kettle 1,2 steams 9;"
            + "clipper a home 2,2 noses 1 steers if wind<4 and wind>-1 then -1 else if leaf then 1 else 3;");
        check.due("no other directions", 0, () -> z.bestWind(0, 60));
    }

    private static void bestWindKeepsTheForce() {
        TeaRegatta x = Books.taught("bay 5,5;kettle 2,3 steams 9;"
            + "clipper a home 2,2 noses 1 steers if leaf then wind+2 else wind;");
        check.due("too early without a force", 0, () -> x.bestWind(0, 4));
        check.due("without a force", 2, () -> x.bestWind(0, 5));
        x.setWind(0, 3);
        check.due("too early with a force", 0, () -> x.bestWind(0, 2));
        check.due("with a force", 2, () -> x.bestWind(0, 3));
        TeaRegatta y = Books.taught("bay 5,5;kettle 2,3 steams 9;"
            + "clipper a home 2,2 noses 1 steers if force=2 then if leaf then wind+2 else wind else -1;");
        y.setWind(0, 1);
        check.due("with a force of 1", 0, () -> y.bestWind(0, 60));
        y.setWind(0, 2);
        check.due("with a force of 2", 2, () -> y.bestWind(0, 60));
    }

    private static void wrongHours() {
        TeaRegatta x = Books.taught(VOYAGE);
        for (int hours : new int[] {0, -1, 61, 120, Integer.MAX_VALUE, Integer.MIN_VALUE}) {
            check.due("pointsBehind " + hours, Books.ARGUMENT, () -> x.pointsBehind(0, hours));
            check.due("bestWind " + hours, Books.ARGUMENT, () -> x.bestWind(1, hours));
            check.due("pointsBehind of no clipper", Books.OUT_OF_BOUNDS, () -> x.pointsBehind(2, hours));
            check.due("bestWind of no clipper", Books.OUT_OF_BOUNDS, () -> x.bestWind(-1, hours));
        }
    }

    private static void meanPoints() {
        String voyage = " noses 1 steers if leaf then 3 else 1;";
        TeaRegatta x = Books.taught("bay 5,5;kettle 1,0 steams 3;kettle 3,2 steams 4;clipper a home 0,0" + voyage
            + "clipper b home 1,2" + voyage + "clipper c home 1,4" + voyage + "clipper d home 0,4 noses 1 steers -1;");
        check.due("meanPoints", 0.0, x::meanPoints);
        x.setWind(2, 2);
        x.sail(3);
        check.due("meanPoints", 1.5, x::meanPoints);
        x.sail(2);
        check.due("meanPoints", 3.0, x::meanPoints);
        TeaRegatta y = Books.taught(VOYAGE + "clipper c home 2,2 noses 1 steers -1;");
        y.setWind(0, 1);
        y.sail(5);
        check.due("meanPoints", 4.0 / 3.0, y::meanPoints);
        TeaRegatta z = Books.taught("kettle 1,0 steams 9;clipper a home 0,0 noses 1 steers if leaf then 3 else 1;");
        z.setWind(0, 1);
        z.sail(3);
        check.due("meanPoints of one", 6.0, z::meanPoints);
    }

    private static void digest() {
        long bare = 1901;
        for (int x : new int[] {6, 6, 0, 0, 0, 0, 0}) {
            bare = bare * 31 + x;
        }
        for (int cell = 0; cell < 36; cell++) {
            bare = bare * 31;
        }
        long want = bare;
        check.due("digest of a new object", want, () -> new TeaRegatta().digest());
        TeaRegatta x = Books.taught(VOYAGE + "kettle 0,2 steams 30;clipper c home 2,2 noses 4 steers north-2*east-hour;");
        x.setWind(1, 2);
        for (int hour = 0; hour < 30; hour++) {
            check.due("digest at " + hour, digestOf(x), x::digest);
            x.sail(1);
        }
        x.calmKettle(1, 20);
        check.due("digest", digestOf(x), x::digest);
    }

    private static long digestOf(TeaRegatta x) {
        long d = 1901;
        for (int number : new int[] {x.columns(), x.rows(), x.kettles(), x.clippers(), x.windDirection(),
            x.windForce(), x.hour()}) {
            d = d * 31 + number;
        }
        for (int row = 0; row < x.rows(); row++) {
            for (int column = 0; column < x.columns(); column++) {
                d = d * 31 + x.aromaAt(column, row);
            }
        }
        for (int kettle = 0; kettle < x.kettles(); kettle++) {
            d = (d * 31 + x.becalmedFor(kettle)) * 31 + x.visitsTo(kettle);
        }
        for (int clipper = 0; clipper < x.clippers(); clipper++) {
            for (int number : new int[] {x.columnOf(clipper), x.rowOf(clipper), x.leafOf(clipper), x.wayOf(clipper),
                x.pointsOf(clipper), x.sipsOf(clipper), x.ruleTells(clipper)}) {
                d = d * 31 + number;
            }
        }
        return d;
    }
}
