/** Counts the answers that are not as due, and tells each by the test's own line. */
final class Due {
    private static int wrong = 0;
    private static int looked = 0;

    private Due() {
    }

    static void is(long got, long want) {
        looked++;
        if (got != want) {
            wrong++;
            System.out.println(callingLine() + ": answered " + got + ", due is " + want);
        }
    }

    static void isTrue(boolean holds, String what) {
        looked++;
        if (!holds) {
            wrong++;
            System.out.println(callingLine() + ": " + what);
        }
    }

    /** What get() answers; the exception's simple name where it throws. */
    static void gets(MappingMoves x, int place, int i, long want) {
        String got = getOf(x, place, i);
        isTrue(got.equals(Long.toString(want)), "get(" + place + ", " + i + ") answered " + got + ", due is " + want);
    }

    static void getThrows(MappingMoves x, int place, int i, Class<? extends RuntimeException> want) {
        String got = getOf(x, place, i);
        isTrue(got.equals(want.getName()), "get(" + place + ", " + i + ") answered " + got + ", due is " + want.getName());
    }

    private static String getOf(MappingMoves x, int place, int i) {
        try {
            return Long.toString(x.get(place, i));
        } catch (RuntimeException e) {
            return e.getClass().getName();
        }
    }

    static void end() {
        System.out.println(looked + " answers looked at, " + wrong + " not as due");
        if (wrong != 0) {
            System.exit(1);
        }
    }

    private static String callingLine() {
        return StackWalker.getInstance().walk(frames -> frames
                .filter(frame -> !frame.getClassName().equals("Due"))
                .map(frame -> frame.getClassName() + " line " + frame.getLineNumber())
                .findFirst().orElse("?"));
    }
}
