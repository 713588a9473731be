import java.util.ArrayList;
import java.util.List;

/** What each promise takes: cells, kettles, clippers, directions, forces, leaf and hours just within and just beyond. */
public final class BoundsTest {
    private interface OfOne {
        Object ask(TeaRegatta x, int number);
    }

    private interface OfCell {
        Object ask(TeaRegatta x, int column, int row);
    }

    private static final Check check = new Check();

    public static void main(String[] args) {
        check.sentence("hasCustoms throws IndexOutOfBoundsException if there is no such cell",
            () -> cells("hasCustoms", (x, column, row) -> x.hasCustoms(column, row), false));
        check.sentence("hasSteam throws IndexOutOfBoundsException if there is no such cell",
            () -> cells("hasSteam", (x, column, row) -> x.hasSteam(column, row), false));
        check.sentence("aromaAt throws IndexOutOfBoundsException if there is no such cell",
            () -> cells("aromaAt", (x, column, row) -> x.aromaAt(column, row), 0));
        check.sentence("becalmedFor throws IndexOutOfBoundsException if there is no such kettle",
            () -> kettles("becalmedFor", (x, kettle) -> x.becalmedFor(kettle), 0));
        check.sentence("visitsTo throws IndexOutOfBoundsException if there is no such kettle",
            () -> kettles("visitsTo", (x, kettle) -> x.visitsTo(kettle), 0));
        check.sentence("calmKettle throws IndexOutOfBoundsException if there is no such kettle", BoundsTest::calmed);
        clippers();
        check.sentence("smells throws IndexOutOfBoundsException if .. direction is not 0 to 3", BoundsTest::smells);
        check.sentence("setWind throws IndexOutOfBoundsException if direction is not 0 to 3", BoundsTest::directions);
        check.sentence("setWind throws IllegalArgumentException if force is not 0 to 3", BoundsTest::forces);
        check.sentence("jettison throws IllegalArgumentException if leaf is less than 1", BoundsTest::lessThanOneLeaf);
        check.sentence("jettison throws IllegalStateException if it has not so much", BoundsTest::notSoMuchLeaf);
        check.sentence("calmKettle throws IllegalArgumentException if hours is not 0 to 20", BoundsTest::calmHours);
        check.sentence("sail throws IllegalArgumentException if hours is not 1 to 60", BoundsTest::sailHours);
        check.sentence("pointsBehind throws IllegalArgumentException if hours is not 1 to 60",
            BoundsTest::pointsBehindHours);
        check.sentence("bestWind throws IllegalArgumentException if hours is not 1 to 60", BoundsTest::bestWindHours);
        check.end();
    }

    /** Each cell of bays of all sizes, and what lies round them. */
    private static void cells(String call, OfCell asked, Object answer) {
        for (int columns = 3; columns <= 12; columns++) {
            int rows = 15 - columns;
            TeaRegatta x = Books.taught("bay " + columns + "," + rows + ";");
            cells(call, asked, answer, x, columns, rows);
        }
        cells(call, asked, answer, new TeaRegatta(), 6, 6);
        cells(call, asked, answer, Books.taught("bay 3,3;"), 3, 3);
        cells(call, asked, answer, Books.taught("bay 12,12;"), 12, 12);
    }

    private static void cells(String call, OfCell asked, Object answer, TeaRegatta x, int columns, int rows) {
        for (int column = -1; column <= columns; column++) {
            for (int row = -1; row <= rows; row++) {
                int c = column;
                int r = row;
                boolean within = column >= 0 && column < columns && row >= 0 && row < rows;
                check.due(call + " " + c + "," + r + " of " + columns + "," + rows,
                    within ? answer : Books.OUT_OF_BOUNDS, () -> asked.ask(x, c, r));
            }
        }
        int[] far = {Integer.MAX_VALUE, Integer.MIN_VALUE, 65536, -65536};
        for (int number : far) {
            check.due(call + " of column " + number, Books.OUT_OF_BOUNDS, () -> asked.ask(x, number, 0));
            check.due(call + " of row " + number, Books.OUT_OF_BOUNDS, () -> asked.ask(x, 0, number));
        }
    }

    /** So many kettles and clippers, the clippers each at a cell of its own. */
    private static TeaRegatta withSome(int kettles, int clippers) {
        StringBuilder book = new StringBuilder();
        for (int kettle = 0; kettle < kettles; kettle++) {
            book.append("kettle 5,").append(kettle).append(" steams 1;");
        }
        for (int clipper = 0; clipper < clippers; clipper++) {
            book.append("clipper ").append((char) ('a' + clipper)).append(" home 1,").append(clipper)
                .append(" noses 1 steers 0;");
        }
        return Books.taught(book.toString());
    }

    /** The answer is that for the numbers below the count; none of the others is there. */
    private static void numbers(String call, OfOne asked, Object answer, TeaRegatta x, int count) {
        for (int number = 0; number < count; number++) {
            int n = number;
            check.due(call + " " + n + " of " + count, answer, () -> asked.ask(x, n));
        }
        for (int number : new int[] {-1, count, count + 1, 6, 7, Integer.MAX_VALUE, Integer.MIN_VALUE}) {
            check.due(call + " " + number + " of " + count, Books.OUT_OF_BOUNDS, () -> asked.ask(x, number));
        }
    }

    private static void kettles(String call, OfOne asked, Object answer) {
        for (int count = 0; count <= 6; count++) {
            numbers(call, asked, answer, withSome(count, 0), count);
            numbers(call, asked, answer, withSome(count, 6 - count), count);
        }
        numbers(call, asked, answer, new TeaRegatta(), 0);
    }

    private static void calmed() {
        kettles("calmKettle", (x, kettle) -> x.calmKettle(kettle, 0), 0);
        kettles("calmKettle", (x, kettle) -> x.calmKettle(kettle, 20), 0);
    }

    private static void clippers(String call, OfOne asked, Object answer) {
        check.sentence(call + " throws IndexOutOfBoundsException if there is no such clipper", () -> {
            for (int count = 0; count <= 6; count++) {
                numbers(call, asked, answer, withSome(0, count), count);
                numbers(call, asked, answer, withSome(6 - count, count), count);
            }
            numbers(call, asked, answer, new TeaRegatta(), 0);
        });
    }

    private static void clippers() {
        clippers("columnOf", (x, clipper) -> x.columnOf(clipper), 1);
        clippers("rowOf", (x, clipper) -> x.rowOf(clipper) == clipper, true);
        clippers("isHome", (x, clipper) -> x.isHome(clipper), true);
        clippers("leafOf", (x, clipper) -> x.leafOf(clipper), 0);
        clippers("wayOf", (x, clipper) -> x.wayOf(clipper), 0);
        clippers("speedOf", (x, clipper) -> x.speedOf(clipper), 5);
        clippers("pointsOf", (x, clipper) -> x.pointsOf(clipper), 0);
        clippers("sipsOf", (x, clipper) -> x.sipsOf(clipper), 0);
        clippers("smells", (x, clipper) -> x.smells(clipper, 0), 0);
        clippers("ruleTells", (x, clipper) -> x.ruleTells(clipper), 0);
        clippers("wouldStay", (x, clipper) -> x.wouldStay(clipper), false);
        clippers("steersTo", (x, clipper) -> x.steersTo(clipper), 0);
        clippers("jettison", (x, clipper) -> x.jettison(clipper, 1), Books.STATE);
        clippers("pointsBehind", (x, clipper) -> x.pointsBehind(clipper, 1), 0);
        clippers("hoursUntilPoints", (x, clipper) -> x.hoursUntilPoints(clipper), -1);
        clippers("bestWind", (x, clipper) -> x.bestWind(clipper, 1), 0);
    }

    private static void smells() {
        TeaRegatta x = Books.taught("kettle 1,0 steams 4;kettle 2,1 steams 3;kettle 1,2 steams 2;kettle 0,1 steams 1;"
            + "clipper a home 1,1 noses 1 steers 0;");
        for (int direction = 0; direction < 4; direction++) {
            int d = direction;
            check.due("smells " + d, 4 - d, () -> x.smells(0, d));
        }
        for (int direction : new int[] {-1, 4, 5, -4, Integer.MAX_VALUE, Integer.MIN_VALUE}) {
            check.due("smells " + direction, Books.OUT_OF_BOUNDS, () -> x.smells(0, direction));
        }
    }

    private static void directions() {
        TeaRegatta x = new TeaRegatta();
        for (int direction = 3; direction >= 0; direction--) {
            int d = direction;
            check.due("setWind " + d, 0, () -> x.setWind(d, 0));
            check.due("windDirection", d, x::windDirection);
        }
        x.setWind(2, 1);
        for (int direction : new int[] {-1, 4, 5, -4, Integer.MAX_VALUE, Integer.MIN_VALUE}) {
            check.due("setWind " + direction, Books.OUT_OF_BOUNDS, () -> x.setWind(direction, 3));
            check.due("windDirection", 2, x::windDirection);
            check.due("windForce", 1, x::windForce);
        }
    }

    private static void forces() {
        TeaRegatta x = new TeaRegatta();
        int before = 0;
        for (int force : new int[] {0, 1, 2, 3, 3, 0}) {
            int was = before;
            check.due("setWind with " + force, was, () -> x.setWind(1, force));
            check.due("windForce", force, x::windForce);
            before = force;
        }
        x.setWind(2, 1);
        for (int force : new int[] {-1, 4, 5, -4, Integer.MAX_VALUE, Integer.MIN_VALUE}) {
            check.due("setWind with " + force, Books.ARGUMENT, () -> x.setWind(3, force));
            check.due("windDirection", 2, x::windDirection);
            check.due("windForce", 1, x::windForce);
        }
    }

    /** A clipper with so much leaf, 1 to 30. */
    private static TeaRegatta withLeaf(int leaf) {
        TeaRegatta x = Books.taught("kettle 1,1 steams 1;clipper a home 1,1 noses 1 steers -1;");
        x.sail(30);
        if (leaf < 30) {
            x.jettison(0, 30 - leaf);
        }
        return x;
    }

    private static void lessThanOneLeaf() {
        TeaRegatta x = withLeaf(5);
        for (int leaf : new int[] {0, -1, -5, Integer.MIN_VALUE}) {
            check.due("jettison " + leaf, Books.ARGUMENT, () -> x.jettison(0, leaf));
            check.due("leafOf", 5, () -> x.leafOf(0));
        }
        check.due("jettison 1", 4, () -> x.jettison(0, 1));
        x.jettison(0, 4);
        check.due("jettison 0 of nothing", Books.ARGUMENT, () -> x.jettison(0, 0));
        check.due("jettison 1 of nothing", Books.STATE, () -> x.jettison(0, 1));
    }

    private static void notSoMuchLeaf() {
        for (int leaf = 1; leaf <= 30; leaf++) {
            int has = leaf;
            TeaRegatta x = withLeaf(leaf);
            check.due("leafOf", has, () -> x.leafOf(0));
            check.due("jettison one more than " + has, Books.STATE, () -> x.jettison(0, has + 1));
            check.due("jettison 31", Books.STATE, () -> x.jettison(0, 31));
            check.due("jettison MAX", Books.STATE, () -> x.jettison(0, Integer.MAX_VALUE));
            check.due("leafOf", has, () -> x.leafOf(0));
            check.due("jettison all of " + has, 0, () -> x.jettison(0, has));
            check.due("jettison 1 of nothing", Books.STATE, () -> x.jettison(0, 1));
            check.due("leafOf", 0, () -> x.leafOf(0));
        }
    }

    private static void calmHours() {
        TeaRegatta x = Books.taught("kettle 1,1 steams 1;kettle 2,2 steams 1;");
        int before = 0;
        for (int hours = 0; hours <= 20; hours++) {
            int h = hours;
            int was = before;
            check.due("calmKettle for " + h, was, () -> x.calmKettle(1, h));
            check.due("becalmedFor", h, () -> x.becalmedFor(1));
            before = hours;
        }
        for (int hours : new int[] {-1, 21, 60, Integer.MAX_VALUE, Integer.MIN_VALUE}) {
            check.due("calmKettle for " + hours, Books.ARGUMENT, () -> x.calmKettle(1, hours));
            check.due("becalmedFor", 20, () -> x.becalmedFor(1));
        }
        x.sail(20);
        check.due("it steams behind 20 hours", true, () -> x.hasSteam(2, 2));
    }

    private static int[] wrongHours() {
        return new int[] {0, 61, -1, 62, 120, -60, Integer.MAX_VALUE, Integer.MIN_VALUE};
    }

    private static void sailHours() {
        int passed = 0;
        TeaRegatta x = withLeaf(30);
        for (int hours : new int[] {1, 2, 59, 60}) {
            passed += hours;
            int hour = 30 + passed;
            check.due("sail " + hours, 0, () -> x.sail(hours));
            check.due("hour", hour, x::hour);
        }
        for (int hours : wrongHours()) {
            check.due("sail " + hours, Books.ARGUMENT, () -> x.sail(hours));
            check.due("hour", 152, x::hour);
        }
    }

    /** Its points behind 0 to 60 hours. */
    private static List<Integer> pointsOfHours(TeaRegatta x) {
        List<Integer> points = new ArrayList<>();
        for (int hour = 0; hour <= 60; hour++) {
            points.add(x.pointsOf(0));
            x.sail(1);
        }
        return points;
    }

    private static TeaRegatta voyage() {
        TeaRegatta x = Books.taught("bay 3,3;kettle 1,0 steams 1;"
            + "clipper a home 0,0 noses 1 steers if leaf then 3 else 1;");
        x.setWind(0, 1);
        return x;
    }

    private static void pointsBehindHours() {
        List<Integer> points = pointsOfHours(voyage());
        check.due("points behind 2 hours", 0, () -> points.get(2));
        check.due("points behind 3 hours", 6, () -> points.get(3));
        TeaRegatta x = voyage();
        for (int hours = 1; hours <= 60; hours++) {
            int h = hours;
            check.due("pointsBehind " + h, points.get(h), () -> x.pointsBehind(0, h));
        }
        for (int hours : wrongHours()) {
            check.due("pointsBehind " + hours, Books.ARGUMENT, () -> x.pointsBehind(0, hours));
        }
    }

    private static void bestWindHours() {
        TeaRegatta x = voyage();
        for (int hours = 1; hours <= 60; hours++) {
            int h = hours;
            check.due("bestWind " + h, 0, () -> x.bestWind(0, h));
        }
        for (int hours : wrongHours()) {
            check.due("bestWind " + hours, Books.ARGUMENT, () -> x.bestWind(0, hours));
        }
        // Home for the first time in the 60th hour, and only with a wind to the west.
        TeaRegatta y = Books.taught("bay 3,3;kettle 1,0 steams 1;"
            + "clipper a home 0,0 noses 1 steers if leaf=0 then 1 else if hour>58 and wind=3 then 3 else -1;");
        y.setWind(0, 1);
        check.due("bestWind 59", 0, () -> y.bestWind(0, 59));
        check.due("pointsBehind 60", 0, () -> y.pointsBehind(0, 60));
        check.due("hour", 0, y::hour);
        y.setWind(3, 1);
        int until = y.hoursUntilPoints(0);
        y.setWind(0, 1);
        check.due("home behind 60 hours", 60, () -> until);
        check.due("bestWind 60", 3, () -> y.bestWind(0, 60));
    }
}
