import java.util.TreeSet;

/** Counts the answers that are not as due, and tells each by the document's sentence and the test's own line. */
final class Due {
    private static int wrong = 0;
    private static int looked = 0;
    private static String current = "";
    private static final TreeSet<String> SENTENCES = new TreeSet<>();

    private Due() {
    }

    /** From here on the answers are due by this sentence of the document, quoted to the letter. */
    static void sentence(String where, String words) {
        current = where + ": '" + words + "'";
        SENTENCES.add(current);
    }

    static void is(long got, long want) {
        isTrue(got == want, "answered " + got + ", due is " + want);
    }

    static void isTrue(boolean holds, String what) {
        looked++;
        if (!holds) {
            wrong++;
            System.out.println(callingLine() + " [" + current + "]: " + what);
        }
    }

    static void same(String got, String want) {
        isTrue(got.equals(want), "it is\n" + got + "\ndue is\n" + want);
    }

    static void gets(MappingMoves x, int place, int i, long want) {
        String got = getOf(x, place, i);
        isTrue(got.equals(Long.toString(want)), "get(" + place + ", " + i + ") answered " + got + ", due is " + want);
    }

    /** Just this class, and none below it. */
    static void getThrows(MappingMoves x, int place, int i, Class<? extends RuntimeException> want) {
        String got = getOf(x, place, i);
        isTrue(got.equals(want.getName()), "get(" + place + ", " + i + ") answered " + got + ", due is " + want.getName());
    }

    /** What get() answers; the exception's name where it throws. */
    static String getOf(MappingMoves x, int place, int i) {
        try {
            return Long.toString(x.get(place, i));
        } catch (RuntimeException e) {
            return e.getClass().getName();
        }
    }

    static void end() {
        System.out.println(SENTENCES.size() + " sentences, " + looked + " answers looked at, " + wrong + " not as due");
        if (wrong != 0) {
            System.exit(1);
        }
    }

    private static String callingLine() {
        return StackWalker.getInstance().walk(frames -> frames
                .filter(frame -> !frame.getClassName().equals("Due") && !frame.getClassName().equals("Scene"))
                .map(frame -> frame.getClassName() + " line " + frame.getLineNumber())
                .findFirst().orElse("?"));
    }
}
