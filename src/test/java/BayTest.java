/** Promises 1, 6 to 17, 31 and 33: a new object, the bay, its kettles, its aroma and its wind. */
public final class BayTest {
    private static final Check check = new Check();
    private static final int[] EAST = {0, 1, 0, -1};
    private static final int[] SOUTH = {-1, 0, 1, 0};

    public static void main(String[] args) {
        check.sentence("Creates a bay of six columns and six rows without kettles, customs and clippers, at the hour 0.",
            BayTest::newObject);
        check.sentence("Returns how many kettles there are.", BayTest::counts);
        check.sentence("Returns whether there are customs at the cell there.", BayTest::customs);
        check.sentence("Returns whether there is a kettle at the cell there that steams.", BayTest::steam);
        check.sentence("The aroma at a cell is that of all kettles, added.", BayTest::aroma);
        check.sentence("what the kettle steams less 2 * n, at least 0", BayTest::aromaAtLeastZero);
        check.sentence("from the cell that lies as many cells as the force in the direction of the wind",
            BayTest::aromaWithWind);
        check.sentence("The wind blows .. with a force of 0 to 3 (0, at first).", BayTest::forces);
        check.sentence("(it may be beyond the bay)", BayTest::aromaFromBeyond);
        check.sentence("Calms a kettle: it is becalmed for some hours from now on, also if it is already.",
            BayTest::kettlesByHand);
        check.sentence("Lets the wind blow otherwise.", BayTest::windByHand);
        check.end();
    }

    private static void newObject() {
        TeaRegatta x = new TeaRegatta();
        check.due("columns", 6, x::columns);
        check.due("rows", 6, x::rows);
        check.due("kettles", 0, x::kettles);
        check.due("clippers", 0, x::clippers);
        check.due("hour", 0, x::hour);
        check.due("windDirection", 0, x::windDirection);
        check.due("windForce", 0, x::windForce);
        check.due("errorAt", -1, x::errorAt);
        for (int cell = 0; cell < 36; cell++) {
            int column = cell % 6;
            int row = cell / 6;
            check.due("hasCustoms", false, () -> x.hasCustoms(column, row));
            check.due("hasSteam", false, () -> x.hasSteam(column, row));
            check.due("aromaAt", 0, () -> x.aromaAt(column, row));
        }
        check.due("leader", Books.STATE, x::leader);
        check.due("meanPoints", 0.0, x::meanPoints);
        check.due("sail", 0, () -> x.sail(60));
        check.due("hour", 60, x::hour);
    }

    private static void counts() {
        StringBuilder book = new StringBuilder();
        for (int count = 1; count <= 6; count++) {
            book.append("kettle ").append(count - 1).append(",0 steams 1;");
            book.append("clipper ").append((char) ('a' + count)).append(" home 0,5 noses 1 steers 1;");
            book.append("customs ").append(count - 1).append(",5;");
            TeaRegatta x = Books.taught(book.toString());
            check.due("kettles", count, x::kettles);
            check.due("clippers", count, x::clippers);
            int last = count - 1;
            check.due("last kettle", 0, () -> x.becalmedFor(last));
            check.due("last clipper", 5, () -> x.rowOf(last));
        }
        TeaRegatta z = Books.taught("customs 0,0;customs 1,0;kettle 2,0 steams 1;");
        check.due("customs are no kettles", 1, z::kettles);
        check.due("nor clippers", 0, z::clippers);
    }

    private static void customs() {
        TeaRegatta x = Books.taught("bay 4,3;customs 3,0;kettle 1,1 steams 3;customs 0,2;clipper a home 2,1 noses 1 steers 1;");
        for (int row = 0; row < 3; row++) {
            for (int column = 0; column < 4; column++) {
                int c = column;
                int r = row;
                boolean want = column == 3 && row == 0 || column == 0 && row == 2;
                check.due("hasCustoms " + c + "," + r, want, () -> x.hasCustoms(c, r));
            }
        }
    }

    private static void steam() {
        TeaRegatta x = Books.taught("bay 4,3;customs 3,0;kettle 1,2 steams 3;kettle 2,1 steams 1;");
        for (int row = 0; row < 3; row++) {
            for (int column = 0; column < 4; column++) {
                int c = column;
                int r = row;
                boolean want = column == 1 && row == 2 || column == 2 && row == 1;
                check.due("hasSteam " + c + "," + r, want, () -> x.hasSteam(c, r));
            }
        }
        x.calmKettle(0, 2);
        check.due("becalmed", false, () -> x.hasSteam(1, 2));
        check.due("the other one", true, () -> x.hasSteam(2, 1));
        x.setWind(1, 3);
        check.due("whatever the wind", true, () -> x.hasSteam(2, 1));
        check.due("whatever the wind", false, () -> x.hasSteam(1, 2));
        x.sail(1);
        check.due("becalmed for an hour still", false, () -> x.hasSteam(1, 2));
        x.sail(1);
        check.due("steams again", true, () -> x.hasSteam(1, 2));
    }

    private static void aroma() {
        TeaRegatta x = Books.taught("bay 7,5;kettle 2,1 steams 9;kettle 4,3 steams 30;customs 1,1;");
        aroma(x, 2, 1, 9 + 22);
        aroma(x, 4, 3, 1 + 30);
        aroma(x, 0, 4, 0 + 20);
        aroma(x, 6, 4, 0 + 24);
        aroma(x, 1, 1, 7 + 20);
        aroma(x, 0, 0, 3 + 16);
        aroma(x, 2, 4, 3 + 24);
        aroma(x, 6, 1, 1 + 22);
        x.calmKettle(1, 1);
        aroma(x, 2, 1, 9);
        aroma(x, 4, 3, 1);
        aroma(x, 5, 3, 0);
        x.calmKettle(0, 1);
        aroma(x, 2, 1, 0);
        x.sail(1);
        aroma(x, 2, 1, 31);
    }

    /** Steaming 2 * n - 1, 2 * n and 2 * n + 1 at n cells from there; less than 0 would show in the sum. */
    private static void aromaAtLeastZero() {
        for (int away = 1; away <= 14; away++) {
            int row = Math.min(away, 11);
            int column = away - row;
            for (int steam = 2 * away - 1; steam <= 2 * away + 1; steam++) {
                TeaRegatta x = Books.taught("bay 12,12;kettle 0,0 steams " + steam + ";");
                aroma(x, column, row, Math.max(0, steam - 2 * away));
                x.setWind(3, 0);
                aroma(x, column, row, Math.max(0, steam - 2 * away));
                int next = Math.max(0, steam - 2 * away) + 5;
                TeaRegatta y = Books.taught("bay 12,12;kettle 0,0 steams " + steam + ";kettle " + column + "," + row
                    + " steams 5;");
                aroma(y, column, row, next);
            }
        }
        TeaRegatta x = Books.taught("bay 12,12;kettle 0,0 steams 30;kettle 11,11 steams 1;");
        aroma(x, 11, 11, 1);
        aroma(x, 0, 0, 30);
        aroma(x, 4, 10, 2);
        aroma(x, 4, 11, 0);
        aroma(x, 5, 11, 0);
    }

    private static void aromaWithWind() {
        TeaRegatta x = Books.taught("bay 7,5;kettle 2,1 steams 9;kettle 4,3 steams 30;");
        for (int direction = 0; direction < 4; direction++) {
            x.setWind(direction, 0);
            aroma(x, 0, 0, 3 + 16);
        }
        x.setWind(0, 2);
        aroma(x, 4, 3, 0 + 26);
        aroma(x, 2, 0, 7 + 24);
        aroma(x, 0, 0, 3 + 20);
        x.setWind(1, 3);
        aroma(x, 0, 0, 0 + 10);
        aroma(x, 6, 1, 7 + 24);
        x.setWind(2, 1);
        aroma(x, 0, 0, 1 + 14);
        aroma(x, 4, 4, 1 + 30);
        x.setWind(3, 3);
        aroma(x, 0, 0, 5 + 22);
        aroma(x, 6, 4, 0 + 18);
        aroma(x, 0, 1, 7 + 24);
    }

    /** With a force of 0 to 3, the aroma comes from 0 to 3 cells away, where there is the most of it. */
    private static void forces() {
        TeaRegatta x = Books.taught("bay 11,11;kettle 5,5 steams 30;");
        check.due("windDirection at first", 0, x::windDirection);
        check.due("windForce at first", 0, x::windForce);
        aroma(x, 5, 5, 30);
        for (int direction = 0; direction < 4; direction++) {
            for (int force = 0; force <= 3; force++) {
                x.setWind(direction, force);
                for (int cells = 0; cells <= 4; cells++) {
                    int column = 5 + EAST[direction] * cells;
                    int row = 5 + SOUTH[direction] * cells;
                    aroma(x, column, row, 30 - 2 * Math.abs(cells - force));
                }
                aroma(x, 5 - EAST[direction], 5 - SOUTH[direction], 28 - 2 * force);
            }
        }
    }

    /** From an edge, a force of 0 is within the bay, and 1 to 3 beyond. */
    private static void aromaFromBeyond() {
        int[] columns = {1, 2, 1, 0};
        int[] rows = {0, 1, 2, 1};
        for (int direction = 0; direction < 4; direction++) {
            int column = columns[direction];
            int row = rows[direction];
            TeaRegatta x = Books.taught("bay 3,3;kettle " + column + "," + row + " steams 20;");
            for (int force = 0; force <= 3; force++) {
                x.setWind(direction, force);
                aroma(x, column, row, 20 - 2 * force);
                aroma(x, column - EAST[direction], row - SOUTH[direction], 18 - 2 * force);
                aroma(x, column - 2 * EAST[direction], row - 2 * SOUTH[direction], 16 - 2 * force);
                aroma(x, column + SOUTH[direction], row + EAST[direction], 18 - 2 * force);
                aroma(x, column - SOUTH[direction], row - EAST[direction], 18 - 2 * force);
            }
        }
        TeaRegatta y = Books.taught("bay 3,3;kettle 0,0 steams 6;kettle 2,2 steams 4;");
        y.setWind(3, 3);
        aroma(y, 0, 0, 0);
        aroma(y, 0, 2, 2);
        y.setWind(0, 2);
        aroma(y, 0, 0, 2);
        aroma(y, 1, 0, 2);
        aroma(y, 2, 0, 4);
    }

    private static void aroma(TeaRegatta x, int column, int row, int want) {
        check.due("aromaAt " + column + "," + row, want, () -> x.aromaAt(column, row));
    }

    private static void kettlesByHand() {
        TeaRegatta x = Books.taught("kettle 0,0 steams 9;kettle 1,0 steams 8;");
        check.due("becalmedFor", 0, () -> x.becalmedFor(1));
        check.due("calmKettle", 0, () -> x.calmKettle(1, 4));
        check.due("becalmedFor", 4, () -> x.becalmedFor(1));
        check.due("the other one", 0, () -> x.becalmedFor(0));
        x.sail(3);
        check.due("becalmedFor", 1, () -> x.becalmedFor(1));
        x.sail(1);
        check.due("becalmedFor", 0, () -> x.becalmedFor(1));
        x.sail(1);
        check.due("becalmedFor", 0, () -> x.becalmedFor(1));
        check.due("calmKettle", 0, () -> x.calmKettle(0, 20));
        check.due("calmKettle", 20, () -> x.calmKettle(0, 1));
        check.due("calmKettle", 1, () -> x.calmKettle(0, 7));
        check.due("calmKettle to steam", 7, () -> x.calmKettle(0, 0));
        check.due("hasSteam", true, () -> x.hasSteam(0, 0));
        check.due("visitsTo", 0, () -> x.visitsTo(0));
    }

    private static void windByHand() {
        TeaRegatta x = new TeaRegatta();
        check.due("setWind", 0, () -> x.setWind(3, 1));
        check.due("windDirection", 3, x::windDirection);
        check.due("windForce", 1, x::windForce);
        check.due("setWind", 1, () -> x.setWind(0, 3));
        check.due("windDirection", 0, x::windDirection);
        check.due("windForce", 3, x::windForce);
        check.due("setWind", 3, () -> x.setWind(2, 0));
        check.due("windDirection", 2, x::windDirection);
        check.due("windForce", 0, x::windForce);
        x.sail(5);
        check.due("windDirection", 2, x::windDirection);
        check.due("hour", 5, x::hour);
    }
}
