import java.math.BigInteger;

/** Promises 35 to 39: what would be, the mean points and the digest. */
public final class AheadTest {
    private static final Check check = new Check();
    private static final String VOYAGE = "bay 3,3;kettle 2,0 steams 10;customs 1,0;"
        + "clipper a home 0,0 noses 1 steers if leaf then 3 else 1;clipper b home 1,1 noses 1 steers -1;";

    public static void main(String[] args) {
        check.sentence("Returns its points behind them, if nothing else is done", AheadTest::pointsBehind);
        check.sentence("pointsBehind (nothing is changed)",
            () -> nothingIsChanged("pointsBehind", (x, clipper) -> x.pointsBehind(clipper, 60)));
        check.sentence("Returns behind how many hours it has more points than now for the first time",
            AheadTest::hoursUntilPoints);
        check.sentence("at most 120; -1 if not by then", AheadTest::hoursUntilPointsAtMost120);
        check.sentence("hoursUntilPoints (nothing is changed)",
            () -> nothingIsChanged("hoursUntilPoints", (x, clipper) -> x.hoursUntilPoints(clipper)));
        check.sentence("so that a clipper has the most points behind some hours", AheadTest::bestWind);
        check.sentence("with the force of now", AheadTest::bestWindKeepsTheForce);
        check.sentence("Returns this direction, of several the smallest number", AheadTest::bestWindOfSeveral);
        check.sentence("bestWind (nothing is changed)",
            () -> nothingIsChanged("bestWind", (x, clipper) -> x.bestWind(clipper, 60)));
        check.sentence("Returns the mean points of all clippers", AheadTest::meanPoints);
        check.sentence("0 without any", AheadTest::meanPointsWithoutAny);
        check.sentence("A number d starts with 1901; for each of the following numbers x, d becomes d * 31 + x",
            AheadTest::digest);
        check.sentence("which wraps around as a 64-bit integer", AheadTest::digestWraps);
        check.end();
    }

    private interface OfClipper {
        int ask(TeaRegatta x, int clipper);
    }

    /** All stands as before, and goes on as it does for another one that was not asked. */
    private static void nothingIsChanged(String call, OfClipper asked) {
        TeaRegatta x = Books.taught(VOYAGE);
        TeaRegatta other = Books.taught(VOYAGE);
        for (int force = 0; force <= 3; force++) {
            x.setWind(3 - force, force);
            other.setWind(3 - force, force);
            String before = Books.standing(other);
            asked.ask(x, 0);
            asked.ask(x, 1);
            check.due("what stands behind " + call, before, () -> Books.standing(x));
            check.due("sail behind " + call, other.sail(5), () -> x.sail(5));
            check.due("calmKettle behind " + call, other.calmKettle(0, 4), () -> x.calmKettle(0, 4));
        }
        Books.feed(x, 0, "bay 4,4;");
        asked.ask(x, 0);
        check.due("the tape behind " + call, Books.ARGUMENT, () -> x.trim(9));
        check.due("teach behind " + call, 0, x::teach);
        check.due("columns behind " + call, 4, x::columns);
    }

    private static void pointsBehind() {
        TeaRegatta x = Books.taught(VOYAGE);
        x.setWind(0, 1);
        check.due("pointsBehind 1", 0, () -> x.pointsBehind(0, 1));
        check.due("pointsBehind 4", 0, () -> x.pointsBehind(0, 4));
        check.due("pointsBehind 5", 4, () -> x.pointsBehind(0, 5));
        check.due("pointsBehind 9", 4, () -> x.pointsBehind(0, 9));
        check.due("pointsBehind 10", 8, () -> x.pointsBehind(0, 10));
        check.due("of the other one", 0, () -> x.pointsBehind(1, 60));
        x.sail(4);
        check.due("pointsBehind 1", 4, () -> x.pointsBehind(0, 1));
        x.sail(1);
        check.due("pointsBehind 1", 4, () -> x.pointsBehind(0, 1));
        check.due("pointsBehind 4", 4, () -> x.pointsBehind(0, 4));
        check.due("pointsBehind 5", 8, () -> x.pointsBehind(0, 5));
        for (int hours = 1; hours <= 60; hours++) {
            TeaRegatta y = Books.taught(VOYAGE);
            y.setWind(0, 1);
            int told = y.pointsBehind(0, hours);
            y.sail(hours);
            check.due("pointsOf behind " + hours, told, () -> y.pointsOf(0));
        }
    }

    private static void hoursUntilPoints() {
        TeaRegatta x = Books.taught(VOYAGE);
        x.setWind(0, 1);
        check.due("hoursUntilPoints", 5, () -> x.hoursUntilPoints(0));
        check.due("never", -1, () -> x.hoursUntilPoints(1));
        x.sail(4);
        check.due("hoursUntilPoints", 1, () -> x.hoursUntilPoints(0));
        x.sail(1);
        check.due("more than now", 5, () -> x.hoursUntilPoints(0));
    }

    private static TeaRegatta homeLate() {
        TeaRegatta x = Books.taught("bay 3,3;kettle 1,0 steams 9;"
            + "clipper a home 0,0 noses 1 steers if hour<150 then if leaf then -1 else 1 else 3;");
        x.setWind(1, 2);
        return x;
    }

    private static void hoursUntilPointsAtMost120() {
        TeaRegatta twin = homeLate();
        int hours = 0;
        while (twin.pointsOf(0) == 0 && hours < 200) {
            twin.sail(1);
            hours++;
        }
        int won = hours;
        check.due("it is home behind 150 hours", true, () -> won > 150 && won < 160);
        check.due("points", 30, () -> twin.pointsOf(0));
        check.due("never again", -1, () -> twin.hoursUntilPoints(0));
        TeaRegatta x = homeLate();
        for (int hour = 0; hour < won - 121; hour++) {
            x.sail(1);
        }
        check.due("121 hours ahead", -1, () -> x.hoursUntilPoints(0));
        x.sail(1);
        check.due("120 hours ahead", 120, () -> x.hoursUntilPoints(0));
        x.sail(59);
        check.due("61 hours ahead", 0, () -> x.pointsBehind(0, 60));
        x.sail(1);
        check.due("60 hours ahead", 30, () -> x.pointsBehind(0, 60));
        check.due("60 hours ahead", 0, () -> x.pointsBehind(0, 59));
        check.due("60 hours ahead", 60, () -> x.hoursUntilPoints(0));
    }

    private static void bestWind() {
        String[] kettles = {"kettle 2,1 steams 9;", "kettle 3,2 steams 9;", "kettle 2,3 steams 9;", "kettle 1,2 steams 9;"};
        String clippers = "clipper b home 4,4 noses 1 steers -1;clipper a home 2,2 noses 1 steers if leaf then wind+2 else wind;";
        for (int direction = 0; direction < 4; direction++) {
            int d = direction;
            TeaRegatta x = Books.taught("bay 5,5;" + kettles[direction] + clippers);
            x.setWind((direction + 1) % 4, 1);
            check.due("bestWind", d, () -> x.bestWind(1, 3));
            check.due("bestWind", d, () -> x.bestWind(1, 60));
            check.due("too early for points", 0, () -> x.bestWind(1, 2));
            check.due("of the one that stays", 0, () -> x.bestWind(0, 60));
            check.due("windDirection", (d + 1) % 4, x::windDirection);
        }
        TeaRegatta y = Books.taught("bay 5,5;" + kettles[3] + kettles[1] + clippers);
        y.setWind(3, 1);
        check.due("of several the smallest number", 1, () -> y.bestWind(1, 5));
        y.calmKettle(1, 20);
        check.due("with the kettles of now", 3, () -> y.bestWind(1, 5));
        check.due("pointsBehind with the wind of now", 6, () -> y.pointsBehind(1, 5));
        y.setWind(1, 1);
        check.due("pointsBehind with the wind of now", 0, () -> y.pointsBehind(1, 5));
        TeaRegatta z = Books.taught("bay 5,5;kettle 1,2 steams 9;"
            + "clipper a home 2,2 noses 1 steers if wind<4 and wind>-1 then -1 else if leaf then 1 else 3;");
        check.due("no other directions", 0, () -> z.bestWind(0, 60));
    }

    private static void bestWindKeepsTheForce() {
        TeaRegatta x = Books.taught("bay 5,5;kettle 2,3 steams 9;"
            + "clipper a home 2,2 noses 1 steers if leaf then wind+2 else wind;");
        check.due("too early without a force", 0, () -> x.bestWind(0, 4));
        check.due("without a force", 2, () -> x.bestWind(0, 5));
        x.setWind(0, 3);
        check.due("too early with a force", 0, () -> x.bestWind(0, 2));
        check.due("with a force", 2, () -> x.bestWind(0, 3));
        TeaRegatta y = Books.taught("bay 5,5;kettle 2,3 steams 9;"
            + "clipper a home 2,2 noses 1 steers if force=2 then if leaf then wind+2 else wind else -1;");
        y.setWind(0, 1);
        check.due("with a force of 1", 0, () -> y.bestWind(0, 60));
        y.setWind(0, 2);
        check.due("with a force of 2", 2, () -> y.bestWind(0, 60));
    }

    /** Kettles round a clipper that goes where the wind blows and back: some of the directions win 6, the others none. */
    private static void bestWindOfSeveral() {
        String[] kettles = {"kettle 2,1 steams 9;", "kettle 3,2 steams 9;", "kettle 2,3 steams 9;", "kettle 1,2 steams 9;"};
        for (int some = 0; some < 16; some++) {
            StringBuilder book = new StringBuilder("bay 5,5;");
            for (int direction = 3; direction >= 0; direction--) {
                book.append((some >> direction & 1) != 0 ? kettles[direction] : "");
            }
            book.append("clipper a home 2,2 noses 1 steers if leaf then wind+2 else wind;");
            int want = some == 0 ? 0 : Integer.numberOfTrailingZeros(some);
            for (int wind = 0; wind < 4; wind++) {
                TeaRegatta x = Books.taught(book.toString());
                x.setWind(wind, 1);
                check.due("bestWind of " + book, want, () -> x.bestWind(0, 4));
                check.due("too early for points", 0, () -> x.bestWind(0, 2));
            }
        }
        // All of the four win, and to the south it waits for more leaf than elsewhere.
        TeaRegatta y = Books.taught("bay 5,5;" + String.join("", kettles)
            + "clipper a home 2,2 noses 1 steers if leaf=0 then wind else if wind=2 and hour<9 then -1 else wind+2;");
        y.setWind(1, 3);
        check.due("6 of each", 0, () -> y.bestWind(0, 6));
        check.due("the most of several", 2, () -> y.bestWind(0, 12));
    }

    private static void meanPoints() {
        String voyage = " noses 1 steers if leaf then 3 else 1;";
        TeaRegatta x = Books.taught("bay 5,5;kettle 1,0 steams 3;kettle 3,2 steams 4;clipper a home 0,0" + voyage
            + "clipper b home 1,2" + voyage + "clipper c home 1,4" + voyage + "clipper d home 0,4 noses 1 steers -1;");
        check.due("meanPoints", 0.0, x::meanPoints);
        x.setWind(2, 2);
        x.sail(3);
        check.due("meanPoints", 1.5, x::meanPoints);
        x.sail(2);
        check.due("meanPoints", 3.0, x::meanPoints);
        TeaRegatta y = Books.taught(VOYAGE + "clipper c home 2,2 noses 1 steers -1;");
        y.setWind(0, 1);
        y.sail(5);
        check.due("meanPoints", 4.0 / 3.0, y::meanPoints);
        TeaRegatta z = Books.taught("kettle 1,0 steams 9;clipper a home 0,0 noses 1 steers if leaf then 3 else 1;");
        z.setWind(0, 1);
        z.sail(3);
        check.due("meanPoints of one", 6.0, z::meanPoints);
    }

    private static void meanPointsWithoutAny() {
        check.due("meanPoints of a new object", 0.0, () -> new TeaRegatta().meanPoints());
        TeaRegatta x = Books.taught("kettle 1,1 steams 9;");
        check.due("meanPoints without clippers", 0.0, x::meanPoints);
        x.sail(60);
        check.due("meanPoints without clippers", 0.0, x::meanPoints);
        check.due("meanPoints of one without points", 0.0, () -> Books.taught(Books.CLIPPER + "1;").meanPoints());
        TeaRegatta y = Books.taught("bay 3,3;kettle 1,0 steams 9;clipper a home 0,0 noses 1 steers if leaf then 3 else 1;");
        y.setWind(0, 1);
        y.sail(3);
        check.due("meanPoints of one with points", 6.0, y::meanPoints);
        y.teach();
        check.due("meanPoints without clippers again", 0.0, y::meanPoints);
    }

    private static void digest() {
        String book = VOYAGE + "kettle 0,2 steams 30;clipper c home 2,2 noses 4 steers north-2*east-hour;";
        for (int hours = 0; hours <= 30; hours++) {
            TeaRegatta x = Books.taught(book);
            x.setWind(1, 2);
            if (hours > 0) {
                x.sail(hours);
            }
            check.due("digest at " + hours, digestOf(x).longValue(), x::digest);
            x.calmKettle(1, 20);
            check.due("digest with a calm at " + hours, digestOf(x).longValue(), x::digest);
        }
    }

    /** Without a wrap it has more than 64 bits, even in the smallest bay. */
    private static void digestWraps() {
        BigInteger most = BigInteger.valueOf(Long.MAX_VALUE);
        for (String book : new String[] {"bay 3,3;", "", "bay 12,12;", "bay 3,3;" + Books.CLIPPER + Books.LEAST_NUMBER + ";",
            "bay 3,3;" + Books.CLIPPER + Books.MOST_NUMBER + ";"}) {
            TeaRegatta x = Books.taught(book);
            BigInteger d = digestOf(x);
            check.due("digest without a wrap is too great", true, () -> d.compareTo(most) > 0);
            check.due("digest of " + book, d.longValue(), x::digest);
        }
        // 1901, then 6, 6, 0, 0, 0, 0, 0 and 36 cells without aroma.
        BigInteger bare = BigInteger.valueOf((1901L * 31 + 6) * 31 + 6).multiply(BigInteger.valueOf(31).pow(41));
        check.due("digest of a new object", bare.longValue(), () -> new TeaRegatta().digest());
    }

    /** As it would be without a wrap. */
    private static BigInteger digestOf(TeaRegatta x) {
        BigInteger d = BigInteger.valueOf(1901);
        int columns = x.columns();
        int rows = x.rows();
        int kettles = x.kettles();
        int clippers = x.clippers();
        for (int number : new int[] {columns, rows, kettles, clippers, x.windDirection(), x.windForce(), x.hour()}) {
            d = with(d, number);
        }
        for (int cell = 0; cell < columns * rows; cell++) {
            d = with(d, x.aromaAt(cell % columns, cell / columns));
        }
        for (int kettle = 0; kettle < kettles; kettle++) {
            d = with(with(d, x.becalmedFor(kettle)), x.visitsTo(kettle));
        }
        for (int clipper = 0; clipper < clippers; clipper++) {
            for (int number : new int[] {x.columnOf(clipper), x.rowOf(clipper), x.leafOf(clipper), x.wayOf(clipper),
                x.pointsOf(clipper), x.sipsOf(clipper), x.ruleTells(clipper)}) {
                d = with(d, number);
            }
        }
        return d;
    }

    private static BigInteger with(BigInteger d, int x) {
        return d.multiply(BigInteger.valueOf(31)).add(BigInteger.valueOf(x));
    }
}
