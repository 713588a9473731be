public final class Example {
    public static void main(String[] args) {
        // A new object: a bay of six columns and six rows, and nothing in it.
        TeaRegatta regatta = new TeaRegatta();

        // Feeding a book, and teaching it.
        feed(regatta, "bay 3,3; kettle 2,0 steams 10; kettle 0,2 steams 7; customs 1,0;\n"
            + "clipper rose home 0,0 noses 1 steers if leaf > 0 then 3 else 1;\n"
            + "clipper fern home 1,2 noses 2 steers if leaf > 0 then 1 else wind;");
        System.out.println("teach: " + regatta.teach() + ", clippers: " + regatta.clippers());

        // Asking: rose is clipper 0, fern is clipper 1, as the book has them.
        System.out.println("aroma at 0,0: " + regatta.aromaAt(0, 0));
        System.out.println("rose smells to the east: " + regatta.smells(0, 1));
        System.out.println("rose steers to: " + regatta.steersTo(0));

        // By hand: the wind blows to the south with a force of 2; the force before is answered.
        System.out.println("force before: " + regatta.setWind(2, 2));

        // What would be: nothing is changed by these.
        System.out.println("rose's points behind 10 hours: " + regatta.pointsBehind(0, 10));
        System.out.println("hours until rose has points: " + regatta.hoursUntilPoints(0));
        System.out.println("best wind for fern in 10 hours: " + regatta.bestWind(1, 10));

        // Sailing: the points that all clippers win are answered.
        System.out.println("won in 10 hours: " + regatta.sail(10));
        System.out.println("rose at " + regatta.columnOf(0) + "," + regatta.rowOf(0) + " with leaf " + regatta.leafOf(0)
            + ", points " + regatta.pointsOf(0) + " and sips " + regatta.sipsOf(0));
        System.out.println("leader: " + regatta.leader() + ", mean points: " + regatta.meanPoints());

        // A book with an error: all stays, but the tape is empty.
        feed(regatta, "bay 4,13;");
        System.out.println("teach: " + regatta.teach() + ", at byte " + regatta.errorAt() + " of the tape");
        System.out.println("columns: " + regatta.columns() + ", hour: " + regatta.hour());

        // What there is not is refused, and nothing is changed.
        try {
            regatta.leafOf(2);
        } catch (IndexOutOfBoundsException e) {
            System.out.println("there is no clipper 2");
        }
    }

    /** Puts a text on the empty tape: twenty bytes a call, and the blanks behind its end are cut again. */
    static void feed(TeaRegatta regatta, String text) {
        for (int at = 0; at < text.length(); at += 20) {
            regatta.feed(four(text, at), four(text, at + 4), four(text, at + 8), four(text, at + 12),
                four(text, at + 16));
        }
        regatta.trim(text.length());
    }

    /** Four bytes of the text as a number, the highest one first; a blank for each byte behind its end. */
    static int four(String text, int from) {
        int number = 0;
        for (int at = from; at < from + 4; at++) {
            number = number << 8 | (at < text.length() ? text.charAt(at) & 255 : 32);
        }
        return number;
    }
}
