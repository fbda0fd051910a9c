/** What several tests share: objects to look at, and looks at all that an object tells. */
final class Scene {
    static final int PLAIN = 0, RIGID = 1, SOFT = 2;
    static final int LEAST = Integer.MIN_VALUE, MOST = Integer.MAX_VALUE;
    static final int[] NO_PLACES = {-1, 24, LEAST, MOST};
    static final int[] NO_MAPPINGS = {-1, 4, LEAST, MOST};

    /** The places of scene(). */
    static final int BYTES = 0, GONE_INTS = 1, ANY = 2, RIGIDS = 3, SOFTS = 4, DOUBLES = 5, FLOATS = 6, GONE_SHELF = 7,
        LONGS = 8, NO_CELLS = 9, NO_SHELF_CELLS = 10, NOTHING = 11;

    interface Call {
        int on(MappingMoves x);
    }

    private Scene() {
    }

    /** A column of numbers at place 0. */
    static MappingMoves numbers(int kind, long... cells) {
        MappingMoves x = new MappingMoves();
        fill(x, 0, kind, cells);
        return x;
    }

    /** Parts 0 plain (10), 1 rigid (20), 2 soft (31), 3 rigid (40), 4 soft (50). */
    static MappingMoves withParts() {
        MappingMoves x = new MappingMoves();
        x.part(PLAIN, 10);
        x.part(RIGID, 20);
        x.part(SOFT, 31);
        x.part(RIGID, 40);
        x.part(SOFT, 50);
        return x;
    }

    /** A column of every form, parts of every sort, a fault, and a copy that was done. */
    static MappingMoves scene() {
        MappingMoves x = withParts();
        fill(x, BYTES, 0, 1, -2, 3);
        fill(x, GONE_INTS, 3, 4, 5);
        x.let(GONE_INTS);
        fill(x, ANY, 7, 0, -1, 1, 2);
        fill(x, RIGIDS, 8, 1, -1, 3);
        fill(x, SOFTS, 9, 2, 4);
        fill(x, DOUBLES, 4, 1L << 62, 3);
        x.turn(DOUBLES, 6);
        fill(x, FLOATS, 5, 5, 16);
        fill(x, GONE_SHELF, 7, 0, 0);
        x.let(GONE_SHELF);
        fill(x, LONGS, 4, Long.MAX_VALUE, Long.MIN_VALUE);
        x.make(NO_CELLS, 0, 0);
        x.make(NO_SHELF_CELLS, 7, 0);
        x.fault(3, 7);
        x.copy(BYTES, 0, BYTES, 1, 2);
        return x;
    }

    static void fill(MappingMoves x, int place, int kind, long... cells) {
        Due.is(x.make(place, kind, cells.length), cells.length);
        for (int i = 0; i < cells.length; i++) {
            Due.is(kind < 7 ? x.put(place, i, cells[i]) : x.lay(place, i, (int) cells[i]), 1);
        }
    }

    /** These cells and no more; -1 on a shelf is an empty one. */
    static void holds(MappingMoves x, int place, long... cells) {
        Due.is(x.length(place), cells.length);
        for (int i = 0; i < cells.length; i++) {
            if (cells[i] == -1 && x.kind(place) >= 7) {
                Due.getThrows(x, place, i, NullPointerException.class);
            } else {
                Due.gets(x, place, i, cells[i]);
            }
        }
    }

    /** The call answers so, and the object then tells all that it would tell without the call. */
    static void refused(Call call, int want) {
        MappingMoves x = scene();
        Due.is(call.on(x), want);
        Due.same(everything(x), everything(scene()));
    }

    /** As refused(), but that copied() tells 0 from then on. */
    static void refusedCopy(Call call, int want) {
        MappingMoves x = scene();
        Due.is(call.on(x), want);
        Due.is(x.copied(), 0);
        MappingMoves y = scene();
        y.copy(NO_CELLS, 0, NO_CELLS, 0, 0);
        Due.same(everything(x), everything(y));
    }

    static void refusedGet(int place, int i, Class<? extends RuntimeException> want) {
        MappingMoves x = scene();
        Due.getThrows(x, place, i, want);
        Due.same(everything(x), everything(scene()));
    }

    /** All that an object tells; it is of no use after that, as columns are turned and parts laid to see more. */
    static String everything(MappingMoves x) {
        StringBuilder text = new StringBuilder("copied " + x.copied() + ", told");
        for (int what = 0; what < 4; what++) {
            text.append(' ').append(x.told(what));
        }
        for (int place = 0; place < 24; place++) {
            if (x.kind(place) != MappingMoves.GONE) {
                text.append("\nplace ").append(place).append(", kind ").append(x.kind(place)).append(':').append(cells(x, place));
            }
        }
        return text.append(parts(x)).toString();
    }

    private static String cells(MappingMoves x, int place) {
        int n = x.length(place);
        if (n == MappingMoves.GONE) {
            return " let go";
        }
        boolean shelf = x.kind(place) >= 7;
        StringBuilder text = new StringBuilder();
        for (int i = 0; i < n; i++) {
            text.append(' ').append(Due.getOf(x, place, i));
            if (shelf) {
                text.append('/').append(x.weigh(place, i)).append('/').append(x.raise(place, i));
            }
        }
        if (x.kind(place) == 5 || x.kind(place) == 6) {
            text.append(" as longs: ").append(x.turn(place, 4));
            for (int i = 0; i < n; i++) {
                text.append(' ').append(x.get(place, i));
            }
        }
        return text.toString();
    }

    private static String parts(MappingMoves x) {
        StringBuilder text = new StringBuilder("\nparts:");
        x.make(23, 7, 1);
        for (int part = 0; part < x.told(2); part++) {
            x.lay(23, 0, part);
            text.append(' ').append(x.weigh(23, 0)).append('/').append(x.rigid(23, 0)).append('/').append(x.raise(23, 0));
        }
        return text.toString();
    }
}
