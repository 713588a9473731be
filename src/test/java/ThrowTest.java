/** Each method that throws, with each of its exceptions: which one it is, and that nothing is changed. */
public final class ThrowTest {
    private interface Call {
        Object on(TeaRegatta x);
    }

    private static final Check check = new Check();
    private static final String NOTHING = "A method that throws an exception changes nothing";
    private static final String FIRST = "If several exceptions apply, the one that is named first is thrown";
    private static final String BOOK = "bay 3,4;kettle 2,0 steams 10;kettle 0,2 steams 7;customs 1,0;"
        + "clipper a home 0,0 noses 1 steers if leaf then 3 else 1;clipper b home 1,1 noses 2 steers -1;";
    private static final String WITHOUT_CLIPPERS = "bay 3,4;kettle 2,0 steams 10;kettle 0,2 steams 7;customs 1,0;";
    private static final String NEXT_BOOK = "bay 7,9; kettle 6,8 steams 4;";

    public static void main(String[] args) {
        feed();
        throwsFor("trim", Books.ARGUMENT, x -> x.trim(-1), x -> x.trim(NEXT_BOOK.length() + 1), x -> x.trim(1601));
        cells();
        kettles();
        clippers();
        refused(WITHOUT_CLIPPERS, "leader", Books.STATE, x -> x.leader());
        throwsFor("setWind to a wrong direction", Books.OUT_OF_BOUNDS, x -> x.setWind(-1, 0), x -> x.setWind(4, 1));
        throwsFor("setWind with a wrong force", Books.ARGUMENT, x -> x.setWind(0, -1), x -> x.setWind(3, 4));
        throwsFor("sail", Books.ARGUMENT, x -> x.sail(0), x -> x.sail(61), x -> x.sail(-1));
        severalApply();
        check.end();
    }

    /** A regatta in its voyages, with an error told behind it and a book on the tape. */
    private static TeaRegatta amid(String book, String tape) {
        TeaRegatta x = Books.taught(book);
        x.setWind(1, 2);
        x.sail(8);
        x.calmKettle(1, 7);
        Books.teach(x, "bay 3,4;bay 3,4;");
        Books.feed(x, 0, tape);
        return x;
    }

    private static void throwsFor(String what, String want, Call... calls) {
        for (Call call : calls) {
            refused(BOOK, what, want, call);
        }
    }

    private static void refused(String book, String what, String want, Call call) {
        check.sentence(NOTHING + ": " + what, () -> changesNothing(book, NEXT_BOOK, what, want, call));
    }

    /** The call throws, and then all is as it is for another object without that call. */
    private static void changesNothing(String book, String tape, String what, String want, Call call) {
        TeaRegatta x = amid(book, tape);
        TeaRegatta other = amid(book, tape);
        check.due(what, want, () -> call.on(x));
        check.due("what stands behind it", Books.standing(other), () -> Books.standing(x));
        check.due("sail behind it", other.sail(5), () -> x.sail(5));
        check.due("digest behind it", other.digest(), x::digest);
        check.due("more than the tape has", Books.ARGUMENT, () -> x.trim(tape.length() + 1));
        check.due("what the tape has", tape.length(), () -> x.trim(tape.length()));
        check.due("teach behind it", other.teach(), x::teach);
        check.due("what is taught behind it", Books.standing(other), () -> Books.standing(x));
        check.due("columns behind it", 7, x::columns);
    }

    private static void feed() {
        for (int bytes : new int[] {1581, 1590, 1600}) {
            String tape = NEXT_BOOK + " ".repeat(bytes - NEXT_BOOK.length());
            check.sentence(NOTHING + ": feed", () -> changesNothing(BOOK, tape, "feed at " + bytes, Books.STATE,
                x -> x.feed(0x3B3B3B3B, 0x3B3B3B3B, 0x3B3B3B3B, 0x3B3B3B3B, 0x3B3B3B3B)));
        }
    }

    private static void cells() {
        int[][] beyond = {{-1, 0}, {3, 0}, {0, -1}, {0, 4}};
        for (int[] cell : beyond) {
            throwsFor("hasCustoms", Books.OUT_OF_BOUNDS, x -> x.hasCustoms(cell[0], cell[1]));
            throwsFor("hasSteam", Books.OUT_OF_BOUNDS, x -> x.hasSteam(cell[0], cell[1]));
            throwsFor("aromaAt", Books.OUT_OF_BOUNDS, x -> x.aromaAt(cell[0], cell[1]));
        }
    }

    private static void kettles() {
        throwsFor("becalmedFor", Books.OUT_OF_BOUNDS, x -> x.becalmedFor(-1), x -> x.becalmedFor(2));
        throwsFor("visitsTo", Books.OUT_OF_BOUNDS, x -> x.visitsTo(-1), x -> x.visitsTo(2));
        throwsFor("calmKettle of no kettle", Books.OUT_OF_BOUNDS, x -> x.calmKettle(-1, 3), x -> x.calmKettle(2, 3));
        throwsFor("calmKettle for wrong hours", Books.ARGUMENT, x -> x.calmKettle(1, -1), x -> x.calmKettle(1, 21));
    }

    private static void clippers() {
        for (int none : new int[] {-1, 2}) {
            throwsFor("columnOf", Books.OUT_OF_BOUNDS, x -> x.columnOf(none));
            throwsFor("rowOf", Books.OUT_OF_BOUNDS, x -> x.rowOf(none));
            throwsFor("isHome", Books.OUT_OF_BOUNDS, x -> x.isHome(none));
            throwsFor("leafOf", Books.OUT_OF_BOUNDS, x -> x.leafOf(none));
            throwsFor("wayOf", Books.OUT_OF_BOUNDS, x -> x.wayOf(none));
            throwsFor("speedOf", Books.OUT_OF_BOUNDS, x -> x.speedOf(none));
            throwsFor("pointsOf", Books.OUT_OF_BOUNDS, x -> x.pointsOf(none));
            throwsFor("sipsOf", Books.OUT_OF_BOUNDS, x -> x.sipsOf(none));
            throwsFor("smells of no clipper", Books.OUT_OF_BOUNDS, x -> x.smells(none, 0));
            throwsFor("ruleTells", Books.OUT_OF_BOUNDS, x -> x.ruleTells(none));
            throwsFor("wouldStay", Books.OUT_OF_BOUNDS, x -> x.wouldStay(none));
            throwsFor("steersTo of no clipper", Books.OUT_OF_BOUNDS, x -> x.steersTo(none));
            throwsFor("jettison of no clipper", Books.OUT_OF_BOUNDS, x -> x.jettison(none, 1));
            throwsFor("pointsBehind of no clipper", Books.OUT_OF_BOUNDS, x -> x.pointsBehind(none, 9));
            throwsFor("hoursUntilPoints", Books.OUT_OF_BOUNDS, x -> x.hoursUntilPoints(none));
            throwsFor("bestWind of no clipper", Books.OUT_OF_BOUNDS, x -> x.bestWind(none, 9));
        }
        throwsFor("smells to no direction", Books.OUT_OF_BOUNDS, x -> x.smells(0, -1), x -> x.smells(0, 4));
        throwsFor("steersTo of one that would stay", Books.STATE, x -> x.steersTo(1));
        throwsFor("jettison of less than 1", Books.ARGUMENT, x -> x.jettison(0, 0), x -> x.jettison(0, -3));
        throwsFor("jettison of more than it has", Books.STATE, x -> x.jettison(0, 7), x -> x.jettison(1, 1));
        throwsFor("pointsBehind wrong hours", Books.ARGUMENT, x -> x.pointsBehind(0, 0), x -> x.pointsBehind(0, 61));
        throwsFor("bestWind behind wrong hours", Books.ARGUMENT, x -> x.bestWind(0, 0), x -> x.bestWind(0, 61));
    }

    private static void bothApply(String what, String want, Call call) {
        check.sentence(FIRST + ": " + what, () -> changesNothing(BOOK, NEXT_BOOK, what, want, call));
    }

    private static void severalApply() {
        for (int force : new int[] {-1, 4}) {
            bothApply("setWind", Books.OUT_OF_BOUNDS, x -> x.setWind(-1, force));
            bothApply("setWind", Books.OUT_OF_BOUNDS, x -> x.setWind(4, force));
        }
        for (int hours : new int[] {0, 61}) {
            bothApply("pointsBehind", Books.OUT_OF_BOUNDS, x -> x.pointsBehind(-1, hours));
            bothApply("pointsBehind", Books.OUT_OF_BOUNDS, x -> x.pointsBehind(2, hours));
            bothApply("bestWind", Books.OUT_OF_BOUNDS, x -> x.bestWind(-1, hours));
            bothApply("bestWind", Books.OUT_OF_BOUNDS, x -> x.bestWind(2, hours));
        }
        for (int hours : new int[] {-1, 21}) {
            bothApply("calmKettle", Books.OUT_OF_BOUNDS, x -> x.calmKettle(-1, hours));
            bothApply("calmKettle", Books.OUT_OF_BOUNDS, x -> x.calmKettle(2, hours));
        }
        for (int leaf : new int[] {0, -1, 31, Integer.MAX_VALUE}) {
            bothApply("jettison", Books.OUT_OF_BOUNDS, x -> x.jettison(-1, leaf));
            bothApply("jettison", Books.OUT_OF_BOUNDS, x -> x.jettison(2, leaf));
        }
        // The other one has no leaf at all, and 0 of it is refused as less than 1.
        bothApply("jettison", Books.ARGUMENT, x -> x.jettison(1, 0));
        bothApply("smells", Books.OUT_OF_BOUNDS, x -> x.smells(2, 4));
        bothApply("steersTo", Books.OUT_OF_BOUNDS, x -> x.steersTo(2));
    }
}
