/** Promises 1, 6 to 17, 31 and 33: a new object, the bay, its kettles, its aroma and its wind. */
public final class BayTest {
    private static final Check check = new Check();

    public static void main(String[] args) {
        newObject();
        sizes();
        counts();
        customs();
        steam();
        aroma();
        aromaWithWind();
        kettlesByHand();
        windByHand();
        check.end();
    }

    private static void newObject() {
        TeaRegatta x = new TeaRegatta();
        check.due("columns", 6, x::columns);
        check.due("rows", 6, x::rows);
        check.due("kettles", 0, x::kettles);
        check.due("clippers", 0, x::clippers);
        check.due("hour", 0, x::hour);
        check.due("windDirection", 0, x::windDirection);
        check.due("windForce", 0, x::windForce);
        check.due("errorAt", -1, x::errorAt);
        for (int cell = 0; cell < 36; cell++) {
            int column = cell % 6;
            int row = cell / 6;
            check.due("hasCustoms", false, () -> x.hasCustoms(column, row));
            check.due("hasSteam", false, () -> x.hasSteam(column, row));
            check.due("aromaAt", 0, () -> x.aromaAt(column, row));
        }
        noCells(x, 6, 6);
        noKettle(x, 0);
        noClipper(x, 0);
        check.due("leader", Books.STATE, x::leader);
        check.due("meanPoints", 0.0, x::meanPoints);
        check.due("sail", 0, () -> x.sail(60));
        check.due("hour", 60, x::hour);
    }

    private static void noCells(TeaRegatta x, int columns, int rows) {
        int[][] cells = {{-1, 0}, {0, -1}, {columns, 0}, {0, rows}, {columns, rows}, {-1, -1},
            {Integer.MAX_VALUE, 0}, {0, Integer.MAX_VALUE}, {Integer.MIN_VALUE, 0}, {0, Integer.MIN_VALUE}};
        for (int[] cell : cells) {
            check.due("hasCustoms beyond", Books.OUT_OF_BOUNDS, () -> x.hasCustoms(cell[0], cell[1]));
            check.due("hasSteam beyond", Books.OUT_OF_BOUNDS, () -> x.hasSteam(cell[0], cell[1]));
            check.due("aromaAt beyond", Books.OUT_OF_BOUNDS, () -> x.aromaAt(cell[0], cell[1]));
        }
        check.due("hasCustoms within", false, () -> x.hasCustoms(columns - 1, rows - 1));
        check.due("hasSteam within", false, () -> x.hasSteam(columns - 1, rows - 1));
        check.due("aromaAt within", true, () -> x.aromaAt(columns - 1, rows - 1) >= 0);
    }

    private static void noKettle(TeaRegatta x, int count) {
        for (int kettle : new int[] {-1, count, 6, Integer.MAX_VALUE, Integer.MIN_VALUE}) {
            check.due("becalmedFor " + kettle, Books.OUT_OF_BOUNDS, () -> x.becalmedFor(kettle));
            check.due("visitsTo " + kettle, Books.OUT_OF_BOUNDS, () -> x.visitsTo(kettle));
            check.due("calmKettle " + kettle, Books.OUT_OF_BOUNDS, () -> x.calmKettle(kettle, 3));
            check.due("calmKettle " + kettle, Books.OUT_OF_BOUNDS, () -> x.calmKettle(kettle, 21));
        }
    }

    private static void noClipper(TeaRegatta x, int count) {
        for (int clipper : new int[] {-1, count, 6, Integer.MAX_VALUE, Integer.MIN_VALUE}) {
            check.due("columnOf " + clipper, Books.OUT_OF_BOUNDS, () -> x.columnOf(clipper));
            check.due("rowOf " + clipper, Books.OUT_OF_BOUNDS, () -> x.rowOf(clipper));
            check.due("isHome " + clipper, Books.OUT_OF_BOUNDS, () -> x.isHome(clipper));
            check.due("leafOf " + clipper, Books.OUT_OF_BOUNDS, () -> x.leafOf(clipper));
            check.due("wayOf " + clipper, Books.OUT_OF_BOUNDS, () -> x.wayOf(clipper));
            check.due("speedOf " + clipper, Books.OUT_OF_BOUNDS, () -> x.speedOf(clipper));
            check.due("pointsOf " + clipper, Books.OUT_OF_BOUNDS, () -> x.pointsOf(clipper));
            check.due("sipsOf " + clipper, Books.OUT_OF_BOUNDS, () -> x.sipsOf(clipper));
            check.due("smells " + clipper, Books.OUT_OF_BOUNDS, () -> x.smells(clipper, 0));
            check.due("smells " + clipper, Books.OUT_OF_BOUNDS, () -> x.smells(clipper, 4));
            check.due("ruleTells " + clipper, Books.OUT_OF_BOUNDS, () -> x.ruleTells(clipper));
            check.due("wouldStay " + clipper, Books.OUT_OF_BOUNDS, () -> x.wouldStay(clipper));
            check.due("steersTo " + clipper, Books.OUT_OF_BOUNDS, () -> x.steersTo(clipper));
            check.due("jettison " + clipper, Books.OUT_OF_BOUNDS, () -> x.jettison(clipper, 1));
            check.due("jettison " + clipper, Books.OUT_OF_BOUNDS, () -> x.jettison(clipper, 0));
            check.due("pointsBehind " + clipper, Books.OUT_OF_BOUNDS, () -> x.pointsBehind(clipper, 1));
            check.due("pointsBehind " + clipper, Books.OUT_OF_BOUNDS, () -> x.pointsBehind(clipper, 61));
            check.due("hoursUntilPoints " + clipper, Books.OUT_OF_BOUNDS, () -> x.hoursUntilPoints(clipper));
            check.due("bestWind " + clipper, Books.OUT_OF_BOUNDS, () -> x.bestWind(clipper, 1));
            check.due("bestWind " + clipper, Books.OUT_OF_BOUNDS, () -> x.bestWind(clipper, 0));
        }
    }

    private static void sizes() {
        for (int size = 3; size <= 12; size++) {
            int other = 15 - size;
            TeaRegatta x = Books.taught("bay " + size + "," + other + ";");
            check.due("columns", size, x::columns);
            check.due("rows", other, x::rows);
            noCells(x, size, other);
        }
        TeaRegatta y = Books.taught("customs 1,1;");
        check.due("columns without a line", 6, y::columns);
        check.due("rows without a line", 6, y::rows);
    }

    private static void counts() {
        StringBuilder book = new StringBuilder();
        for (int count = 1; count <= 6; count++) {
            book.append("kettle ").append(count - 1).append(",0 steams 1;");
            book.append("clipper ").append((char) ('a' + count)).append(" home 0,5 noses 1 steers 1;");
            book.append("customs ").append(count - 1).append(",5;");
            TeaRegatta x = Books.taught(book.toString());
            check.due("kettles", count, x::kettles);
            check.due("clippers", count, x::clippers);
            noKettle(x, count);
            noClipper(x, count);
            int last = count - 1;
            check.due("last kettle", 0, () -> x.becalmedFor(last));
            check.due("last clipper", 5, () -> x.rowOf(last));
        }
        TeaRegatta z = Books.taught("customs 0,0;customs 1,0;kettle 2,0 steams 1;");
        check.due("customs are no kettles", 1, z::kettles);
        check.due("nor clippers", 0, z::clippers);
    }

    private static void customs() {
        TeaRegatta x = Books.taught("bay 4,3;customs 3,0;kettle 1,1 steams 3;customs 0,2;clipper a home 2,1 noses 1 steers 1;");
        for (int row = 0; row < 3; row++) {
            for (int column = 0; column < 4; column++) {
                int c = column;
                int r = row;
                boolean want = column == 3 && row == 0 || column == 0 && row == 2;
                check.due("hasCustoms " + c + "," + r, want, () -> x.hasCustoms(c, r));
            }
        }
        noCells(Books.taught("bay 4,3;customs 3,0;customs 0,2;"), 4, 3);
    }

    private static void steam() {
        TeaRegatta x = Books.taught("bay 4,3;customs 3,0;kettle 1,2 steams 3;kettle 2,1 steams 1;");
        for (int row = 0; row < 3; row++) {
            for (int column = 0; column < 4; column++) {
                int c = column;
                int r = row;
                boolean want = column == 1 && row == 2 || column == 2 && row == 1;
                check.due("hasSteam " + c + "," + r, want, () -> x.hasSteam(c, r));
            }
        }
        x.calmKettle(0, 2);
        check.due("becalmed", false, () -> x.hasSteam(1, 2));
        check.due("the other one", true, () -> x.hasSteam(2, 1));
        x.setWind(1, 3);
        check.due("whatever the wind", true, () -> x.hasSteam(2, 1));
        check.due("whatever the wind", false, () -> x.hasSteam(1, 2));
        x.sail(2);
        check.due("steams again", true, () -> x.hasSteam(1, 2));
    }

    private static void aroma() {
        TeaRegatta x = Books.taught("bay 7,5;kettle 2,1 steams 9;kettle 4,3 steams 30;customs 1,1;");
        aroma(x, 2, 1, 9 + 22);
        aroma(x, 4, 3, 1 + 30);
        aroma(x, 0, 4, 0 + 20);
        aroma(x, 6, 4, 0 + 24);
        aroma(x, 1, 1, 7 + 20);
        aroma(x, 0, 0, 3 + 16);
        aroma(x, 2, 4, 3 + 24);
        aroma(x, 6, 1, 1 + 22);
        x.calmKettle(1, 1);
        aroma(x, 2, 1, 9);
        aroma(x, 4, 3, 1);
        aroma(x, 5, 3, 0);
        x.calmKettle(0, 1);
        aroma(x, 2, 1, 0);
        x.sail(1);
        aroma(x, 2, 1, 31);
    }

    private static void aromaWithWind() {
        TeaRegatta x = Books.taught("bay 7,5;kettle 2,1 steams 9;kettle 4,3 steams 30;");
        for (int direction = 0; direction < 4; direction++) {
            x.setWind(direction, 0);
            aroma(x, 0, 0, 3 + 16);
        }
        x.setWind(0, 2);
        aroma(x, 4, 3, 0 + 26);
        aroma(x, 2, 0, 7 + 24);
        aroma(x, 0, 0, 3 + 20);
        x.setWind(1, 3);
        aroma(x, 0, 0, 0 + 10);
        aroma(x, 6, 1, 7 + 24);
        x.setWind(2, 1);
        aroma(x, 0, 0, 1 + 14);
        aroma(x, 4, 4, 1 + 30);
        x.setWind(3, 3);
        aroma(x, 0, 0, 5 + 22);
        aroma(x, 6, 4, 0 + 18);
        aroma(x, 0, 1, 7 + 24);
    }

    private static void aroma(TeaRegatta x, int column, int row, int want) {
        check.due("aromaAt " + column + "," + row, want, () -> x.aromaAt(column, row));
    }

    private static void kettlesByHand() {
        TeaRegatta x = Books.taught("kettle 0,0 steams 9;kettle 1,0 steams 8;");
        check.due("becalmedFor", 0, () -> x.becalmedFor(1));
        check.due("calmKettle", 0, () -> x.calmKettle(1, 4));
        check.due("becalmedFor", 4, () -> x.becalmedFor(1));
        check.due("the other one", 0, () -> x.becalmedFor(0));
        check.due("calmKettle -1", Books.ARGUMENT, () -> x.calmKettle(1, -1));
        check.due("calmKettle 21", Books.ARGUMENT, () -> x.calmKettle(1, 21));
        check.due("calmKettle MAX", Books.ARGUMENT, () -> x.calmKettle(1, Integer.MAX_VALUE));
        check.due("becalmedFor", 4, () -> x.becalmedFor(1));
        x.sail(3);
        check.due("becalmedFor", 1, () -> x.becalmedFor(1));
        x.sail(1);
        check.due("becalmedFor", 0, () -> x.becalmedFor(1));
        x.sail(1);
        check.due("becalmedFor", 0, () -> x.becalmedFor(1));
        check.due("calmKettle", 0, () -> x.calmKettle(0, 20));
        check.due("calmKettle", 20, () -> x.calmKettle(0, 1));
        check.due("calmKettle", 1, () -> x.calmKettle(0, 7));
        check.due("calmKettle to steam", 7, () -> x.calmKettle(0, 0));
        check.due("hasSteam", true, () -> x.hasSteam(0, 0));
        check.due("visitsTo", 0, () -> x.visitsTo(0));
    }

    private static void windByHand() {
        TeaRegatta x = new TeaRegatta();
        check.due("setWind", 0, () -> x.setWind(3, 1));
        check.due("windDirection", 3, x::windDirection);
        check.due("windForce", 1, x::windForce);
        check.due("setWind", 1, () -> x.setWind(0, 3));
        check.due("setWind 4,0", Books.OUT_OF_BOUNDS, () -> x.setWind(4, 0));
        check.due("setWind -1,0", Books.OUT_OF_BOUNDS, () -> x.setWind(-1, 0));
        check.due("setWind 4,4", Books.OUT_OF_BOUNDS, () -> x.setWind(4, 4));
        check.due("setWind -1,-1", Books.OUT_OF_BOUNDS, () -> x.setWind(-1, -1));
        check.due("setWind 2,4", Books.ARGUMENT, () -> x.setWind(2, 4));
        check.due("setWind 2,-1", Books.ARGUMENT, () -> x.setWind(2, -1));
        check.due("windDirection", 0, x::windDirection);
        check.due("windForce", 3, x::windForce);
        check.due("setWind", 3, () -> x.setWind(2, 0));
        check.due("windDirection", 2, x::windDirection);
        x.sail(5);
        check.due("windDirection", 2, x::windDirection);
        check.due("hour", 5, x::hour);
    }
}
