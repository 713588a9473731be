/** Puts texts on the tape, which only feed and trim can fill. */
final class Books {
    static final String OUT_OF_BOUNDS = "throws.IndexOutOfBoundsException";
    static final String ARGUMENT = "throws.IllegalArgumentException";
    static final String STATE = "throws.IllegalStateException";

    private Books() {
    }

    /** Feeds it behind what the tape has, so many bytes, and cuts what does not belong to it. */
    static void feed(TeaRegatta x, int bytesBefore, String text) {
        for (int at = 0; at < text.length(); at += 20) {
            x.feed(four(text, at), four(text, at + 4), four(text, at + 8), four(text, at + 12), four(text, at + 16));
        }
        x.trim(bytesBefore + text.length());
    }

    static int teach(TeaRegatta x, String text) {
        feed(x, 0, text);
        return x.teach();
    }

    /** A new object that was taught this book, which has to be without an error. */
    static TeaRegatta taught(String text) {
        TeaRegatta x = new TeaRegatta();
        int error = teach(x, text);
        if (error != 0) {
            throw new AssertionError("error " + error + " at " + x.errorAt() + " in " + text);
        }
        return x;
    }

    private static int four(String text, int from) {
        int number = 0;
        for (int at = from; at < from + 4; at++) {
            number = number << 8 | (at < text.length() ? text.charAt(at) & 255 : 32);
        }
        return number;
    }
}
