/** "An object is used for at most 512 calls after it has been made": the 512th call answers as the first. */
public final class CallsTest {
    private interface Call {
        Object on(TeaRegatta x);
    }

    private interface OfModel {
        Object of(Model model);
    }

    private static final int MOST_CALLS = 512;
    private static final Check check = new Check();
    private static final String SENTENCE = "An object is used for at most 512 calls after it has been made";
    private static final String BOOK = "bay 4,3;kettle 2,0 steams 10;kettle 0,2 steams 7;customs 1,0;"
        + "clipper a home 0,0 noses 1 steers if leaf then 3 else 1;clipper b home 1,1 noses 2 steers -1;";
    // What prepare makes ahead of the calls that are looked at.
    private static final int PREPARED = Books.callsOfTeach(BOOK) + 2;

    public static void main(String[] args) {
        bookCalls();
        bayCalls();
        clipperCalls();
        callsByHand();
        callsAhead();
        refusedCalls();
        check.sentence(SENTENCE + ": 512 hours", CallsTest::hoursOfAllCalls);
        check.sentence(SENTENCE + ": 512 books", CallsTest::booksOfAllCalls);
        check.sentence(SENTENCE + ": a tape of 512 calls", CallsTest::tapeOfAllCalls);
        check.end();
    }

    private static TeaRegatta prepare() {
        TeaRegatta x = Books.taught(BOOK);
        x.setWind(1, 2);
        x.sail(2);
        return x;
    }

    /** As the first call behind what prepares it, and as the 512th one of all, with calls that change nothing between. */
    private static void last(String what, Object want, Call call) {
        check.sentence(SENTENCE + ": " + what, () -> {
            TeaRegatta first = prepare();
            check.due("the first " + what, want, () -> call.on(first));
            TeaRegatta x = prepare();
            for (int made = PREPARED; made < MOST_CALLS - 1; made++) {
                x.hour();
            }
            check.due("the 512th call, " + what, want, () -> call.on(x));
        });
    }

    /** The same, and also if all of the 512 calls but those that prepare it are this one. */
    private static void each(String what, Object want, Call call) {
        last(what, want, call);
        check.sentence(SENTENCE + ": each of them " + what, () -> {
            TeaRegatta x = prepare();
            for (int made = PREPARED; made < MOST_CALLS; made++) {
                check.due("call " + (made + 1) + ", " + what, want, () -> call.on(x));
            }
        });
    }

    private static void bookCalls() {
        last("feed", 20, x -> x.feed(0, 0, 0, 0, 0));
        each("trim", 0, x -> x.trim(0));
        last("teach", 0, x -> x.teach());
        each("errorAt", -1, x -> x.errorAt());
        each("columns", 4, x -> x.columns());
        each("rows", 3, x -> x.rows());
        each("kettles", 2, x -> x.kettles());
        each("clippers", 2, x -> x.clippers());
    }

    private static void bayCalls() {
        each("hasCustoms", true, x -> x.hasCustoms(1, 0));
        each("hasSteam", false, x -> x.hasSteam(2, 0));
        each("aromaAt", 7, x -> x.aromaAt(2, 2));
        each("becalmedFor", 5, x -> x.becalmedFor(0));
        each("visitsTo", 1, x -> x.visitsTo(0));
        each("windDirection", 1, x -> x.windDirection());
        each("windForce", 2, x -> x.windForce());
        each("hour", 2, x -> x.hour());
    }

    private static void clipperCalls() {
        each("columnOf", 2, x -> x.columnOf(0));
        each("rowOf", 0, x -> x.rowOf(0));
        each("isHome", false, x -> x.isHome(0));
        each("leafOf", 6, x -> x.leafOf(0));
        each("wayOf", 0, x -> x.wayOf(0));
        each("speedOf", 9, x -> x.speedOf(0));
        each("pointsOf", 0, x -> x.pointsOf(0));
        each("sipsOf", 1, x -> x.sipsOf(0));
        each("smells", 5, x -> x.smells(1, 2));
        each("ruleTells", 3, x -> x.ruleTells(0));
        each("wouldStay", true, x -> x.wouldStay(1));
        each("steersTo", 3, x -> x.steersTo(0));
        each("leader", 0, x -> x.leader());
    }

    private static void callsByHand() {
        last("setWind", 2, x -> x.setWind(3, 1));
        each("setWind", 2, x -> x.setWind(1, 2));
        last("jettison", 2, x -> x.jettison(0, 4));
        last("calmKettle", 5, x -> x.calmKettle(0, 3));
        each("calmKettle", 5, x -> x.calmKettle(0, 5));
        last("sail", 4, x -> x.sail(3));
    }

    private static void callsAhead() {
        each("pointsBehind", 4, x -> x.pointsBehind(0, 3));
        each("hoursUntilPoints", 3, x -> x.hoursUntilPoints(0));
        each("bestWind", 0, x -> x.bestWind(0, 60));
        each("meanPoints", 0.0, x -> x.meanPoints());
        each("digest", prepare().digest(), x -> x.digest());
    }

    private static void refusedCalls() {
        each("trim that throws", Books.ARGUMENT, x -> x.trim(1));
        each("aromaAt that throws", Books.OUT_OF_BOUNDS, x -> x.aromaAt(4, 0));
        each("becalmedFor that throws", Books.OUT_OF_BOUNDS, x -> x.becalmedFor(2));
        each("columnOf that throws", Books.OUT_OF_BOUNDS, x -> x.columnOf(2));
        each("steersTo that throws", Books.STATE, x -> x.steersTo(1));
        each("setWind that throws", Books.ARGUMENT, x -> x.setWind(0, 4));
        each("jettison that throws", Books.STATE, x -> x.jettison(0, 7));
        each("calmKettle that throws", Books.ARGUMENT, x -> x.calmKettle(0, 21));
        each("sail that throws", Books.ARGUMENT, x -> x.sail(61));
        each("bestWind that throws", Books.OUT_OF_BOUNDS, x -> x.bestWind(2, 1));
    }

    /** 60 hours a call: as many hours as an object can see. */
    private static void hoursOfAllCalls() {
        hoursAheadOf("hour", x -> x.hour(), model -> model.hour);
        hoursAheadOf("leafOf", x -> x.leafOf(0), model -> model.clippers.get(0).leaf);
        hoursAheadOf("pointsOf", x -> x.pointsOf(0), model -> model.clippers.get(0).points);
        hoursAheadOf("visitsTo", x -> x.visitsTo(0), model -> model.kettles.get(0).visits);
        hoursAheadOf("meanPoints", x -> x.meanPoints(), model -> (double) model.points());
        hoursAheadOf("sail", x -> x.sail(60), model -> model.sail(60));
    }

    private static void hoursAheadOf(String what, Call call, OfModel want) {
        String book = "kettle 1,0 steams 9;clipper a home 0,0 noses 1 steers if leaf>11 then 3 else if leaf then -1 else 1;";
        TeaRegatta x = Books.taught(book);
        Model model = new Model(book);
        for (int made = Books.callsOfTeach(book); made < MOST_CALLS - 1; made++) {
            check.due("sail of call " + (made + 1), model.sail(60), () -> x.sail(60));
        }
        check.due("the 512th call, " + what, want.of(model), () -> call.on(x));
    }

    private static void booksOfAllCalls() {
        TeaRegatta x = new TeaRegatta();
        for (int made = 0; made < MOST_CALLS; made++) {
            check.due("teach of call " + (made + 1), 0, x::teach);
        }
        String book = "bay 5,7;";
        TeaRegatta y = new TeaRegatta();
        int calls = 0;
        while (calls + Books.callsOfTeach(book) + 2 <= MOST_CALLS) {
            int wrong = calls % 2;
            check.due("teach", wrong, () -> Books.teach(y, wrong == 0 ? book : "bay 5,7."));
            check.due("errorAt", wrong == 0 ? -1 : 7, y::errorAt);
            check.due("rows", 7, y::rows);
            calls += Books.callsOfTeach(book) + 2;
        }
    }

    private static void tapeOfAllCalls() {
        TeaRegatta x = new TeaRegatta();
        for (int made = 0; made < MOST_CALLS; made++) {
            Object want = made < 80 ? (Object) (20 * (made + 1)) : Books.STATE;
            check.due("feed of call " + (made + 1), want, () -> Books.feedBlanks(x));
        }
        TeaRegatta y = new TeaRegatta();
        for (int made = 0; made < MOST_CALLS; made += 2) {
            check.due("feed of call " + (made + 1), 20, () -> Books.feedBlanks(y));
            check.due("trim of call " + (made + 2), 0, () -> y.trim(0));
        }
    }
}
