/** Promises 7 to 10: put, get, sum, turn. */
public final class NumbersTest {
    private static final int BAD = MappingMoves.BAD, GONE = MappingMoves.GONE, OUT = MappingMoves.OUT;
    private static final int OTHER = MappingMoves.OTHER, CAST = MappingMoves.CAST;
    private static final long TWO_TO_63_LESS = Long.MAX_VALUE;

    public static void main(String[] args) {
        lowestBits();
        floatsAndDoubles();
        putInTheWay();
        getThrows();
        sums();
        sumInTheWay();
        turnWholes();
        turnWholesToReals();
        turnRealsToWholes();
        turnDoublesToFloats();
        turnBeyondTelling();
        turnTellsTheFirst();
        turnInTheWay();
        Due.end();
    }

    private static MappingMoves with(int kind, long... cells) {
        MappingMoves x = new MappingMoves();
        Due.is(x.make(0, kind, cells.length), cells.length);
        for (int i = 0; i < cells.length; i++) {
            Due.is(x.put(0, i, cells[i]), 1);
        }
        return x;
    }

    private static void told(int kind, long v, long want) {
        Due.gets(with(kind, v), 0, 0, want);
    }

    private static void lowestBits() {
        told(0, 127, 127);
        told(0, 128, -128);
        told(0, -129, 127);
        told(0, 256, 0);
        told(1, 32767, 32767);
        told(1, 32768, -32768);
        told(1, 0x12345678L, 0x5678);
        told(2, 65535, 65535);
        told(2, -1, 65535);
        told(2, 65536, 0);
        told(3, 2147483647L, 2147483647L);
        told(3, 2147483648L, -2147483648L);
        told(3, 4294967296L, 0);
        told(4, Long.MAX_VALUE, Long.MAX_VALUE);
        told(4, Long.MIN_VALUE, Long.MIN_VALUE);
    }

    private static void floatsAndDoubles() {
        told(5, 7, 7);
        told(5, -3, -3);
        told(5, 16777216, 16777216);
        told(5, 16777217, 16777216);
        told(5, 16777219, 16777220);
        told(5, Long.MAX_VALUE, Long.MAX_VALUE);
        told(5, Long.MIN_VALUE, Long.MIN_VALUE);
        // To the nearest float at once: by way of the nearest double it would be the one below.
        told(5, (1L << 54) + (1L << 30) + 1, (1L << 54) + (1L << 31));
        told(6, 16777217, 16777217);
        told(6, (1L << 53) + 1, 1L << 53);
        told(6, (1L << 53) + 3, (1L << 53) + 4);
        told(6, Long.MAX_VALUE, Long.MAX_VALUE);
        told(6, Long.MIN_VALUE, Long.MIN_VALUE);
        told(6, -1, -1);
    }

    private static void putInTheWay() {
        MappingMoves x = new MappingMoves();
        Due.is(x.put(-1, 0, 1), BAD);
        Due.is(x.put(24, 0, 1), BAD);
        Due.is(x.put(0, 0, 1), GONE);
        for (int kind = 0; kind < 7; kind++) {
            x.make(0, kind, 3);
            Due.is(x.put(0, -1, 1), OUT);
            Due.is(x.put(0, 3, 1), OUT);
            Due.is(x.put(0, Integer.MAX_VALUE, 1), OUT);
            Due.is(x.put(0, Integer.MIN_VALUE, 1), OUT);
            Due.is(x.sum(0, kind), 0);
            x.let(0);
            Due.is(x.put(0, 0, 1), GONE);
            Due.is(x.put(0, 9, 1), GONE);
        }
        for (int kind = 7; kind < 10; kind++) {
            x.make(0, kind, 3);
            Due.is(x.put(0, 0, 1), OTHER);
            Due.is(x.put(0, 3, 1), OTHER);
            x.let(0);
            Due.is(x.put(0, 0, 1), OTHER);
        }
    }

    private static void getThrows() {
        MappingMoves x = new MappingMoves();
        Class<ArrayIndexOutOfBoundsException> out = ArrayIndexOutOfBoundsException.class;
        Due.getThrows(x, -1, 0, out);
        Due.getThrows(x, 24, -1, out);
        Due.getThrows(x, 0, 0, NullPointerException.class);
        Due.getThrows(x, 0, -1, NullPointerException.class);
        for (int kind = 0; kind < 10; kind++) {
            x.make(0, kind, 2);
            Due.getThrows(x, 0, -1, out);
            Due.getThrows(x, 0, 2, out);
            Due.getThrows(x, 0, Integer.MAX_VALUE, out);
            Due.getThrows(x, 0, Integer.MIN_VALUE, out);
            x.let(0);
            Due.getThrows(x, 0, 0, NullPointerException.class);
            Due.getThrows(x, 0, 2, NullPointerException.class);
        }
        x.make(0, 7, 2);
        x.part(0, 5);
        x.part(0, 6);
        x.lay(0, 1, 1);
        Due.gets(x, 0, 1, 1);
        Due.getThrows(x, 0, 0, NullPointerException.class);
        x.lay(0, 0, 0);
        Due.gets(x, 0, 0, 0);
    }

    private static void sums() {
        Due.is(with(0, 100, 100, -1).sum(0, 0), 199);
        Due.is(with(2, 65535, 65535).sum(0, 2), 131070);
        Due.is(with(3, 2147483647L, 1).sum(0, 3), Integer.MIN_VALUE);
        Due.is(with(4, 1L << 40, 5, (1L << 32) - 1).sum(0, 4), 4);
        Due.is(with(5, 3, 4).sum(0, 5), 7);
        Due.is(with(5, Long.MAX_VALUE).sum(0, 5), -1);
        Due.is(with(6, Long.MAX_VALUE, Long.MAX_VALUE).sum(0, 6), -2);
        Due.is(with(6, Long.MIN_VALUE, 3).sum(0, 6), 3);
        Due.is(with(1).sum(0, 1), 0);
        MappingMoves x = new MappingMoves();
        x.make(23, 4, 40);
        for (int i = 0; i < 40; i++) {
            x.put(23, i, 1L << i);
        }
        x.put(23, 0, 8);
        Due.is(x.sum(23, 4), 6);
    }

    private static void sumInTheWay() {
        MappingMoves x = new MappingMoves();
        Due.is(x.sum(-1, 0), BAD);
        Due.is(x.sum(24, 0), BAD);
        Due.is(x.sum(0, -1), BAD);
        Due.is(x.sum(0, 7), BAD);
        Due.is(x.sum(0, 3), GONE);
        x.make(0, 7, 2);
        Due.is(x.sum(0, 7), BAD);
        Due.is(x.sum(0, 3), CAST);
        x.make(0, 3, 2);
        Due.is(x.sum(0, 4), CAST);
        x.let(0);
        Due.is(x.sum(0, 4), CAST);
        Due.is(x.sum(0, 3), GONE);
    }

    /** A column of one cell 0 and one v: whether it turns, and that nothing has changed if not. */
    private static void turns(int kind, long v, int other, boolean can) {
        MappingMoves x = with(kind, 0, v);
        String before = all(x);
        Due.is(x.turn(0, other), can ? 1 : -21);
        Due.is(x.kind(0), can ? other : kind);
        if (!can) {
            Due.isTrue(all(x).equals(before), "turn() changed " + before + " to " + all(x));
        }
    }

    private static String all(MappingMoves x) {
        StringBuilder text = new StringBuilder();
        for (int i = 0; i < x.length(0); i++) {
            text.append(x.get(0, i)).append(' ');
        }
        return text.toString();
    }

    private static void turnWholes() {
        long[] least = {-128, -32768, 0, Integer.MIN_VALUE, Long.MIN_VALUE};
        long[] most = {127, 32767, 65535, Integer.MAX_VALUE, Long.MAX_VALUE};
        for (int kind = 0; kind < 5; kind++) {
            turns(4, least[kind], kind, true);
            turns(4, most[kind], kind, true);
            if (kind < 4) {
                turns(4, least[kind] - 1, kind, false);
                turns(4, most[kind] + 1, kind, false);
            }
            turns(kind, least[kind], 4, true);
            turns(kind, most[kind], 4, true);
            turns(kind, most[kind], kind, true);
        }
        turns(0, -1, 2, false);
        turns(1, -1, 2, false);
        turns(2, 65535, 1, false);
        turns(2, 32767, 1, true);
        MappingMoves x = with(2, 65535, 9);
        Due.is(x.turn(0, 3), 1);
        Due.gets(x, 0, 0, 65535);
        Due.is(x.put(0, 0, -70000), 1);
        Due.gets(x, 0, 0, -70000);
    }

    private static void turnWholesToReals() {
        turns(4, 16777216, 5, true);
        turns(4, 16777217, 5, false);
        turns(3, 16777217, 5, false);
        turns(3, -16777217, 5, false);
        turns(3, 16777218, 5, true);
        turns(3, Integer.MIN_VALUE, 5, true);
        turns(3, Integer.MAX_VALUE, 5, false);
        turns(3, Integer.MAX_VALUE, 6, true);
        turns(4, 1L << 53, 6, true);
        turns(4, (1L << 53) + 1, 6, false);
        turns(4, (1L << 53) + 2, 6, true);
        turns(4, Long.MIN_VALUE, 5, true);
        turns(4, Long.MIN_VALUE, 6, true);
        turns(4, TWO_TO_63_LESS, 5, false);
        turns(4, TWO_TO_63_LESS, 6, false);
        turns(4, TWO_TO_63_LESS - 1023, 6, true);
        turns(4, TWO_TO_63_LESS - 1023, 5, false);
        turns(4, TWO_TO_63_LESS - ((1L << 39) - 1), 5, true);
        MappingMoves x = with(0, 5, -7);
        Due.is(x.turn(0, 5), 1);
        Due.gets(x, 0, 0, 40);
        Due.gets(x, 0, 1, -56);
        Due.is(x.turn(0, 6), 1);
        Due.gets(x, 0, 1, -56);
        Due.is(x.turn(0, 0), 1);
        Due.gets(x, 0, 1, -7);
    }

    private static void turnRealsToWholes() {
        for (int real = 5; real < 7; real++) {
            turns(real, 8 * 127, 0, true);
            turns(real, 8 * 128, 0, false);
            turns(real, 8 * -128, 0, true);
            turns(real, 8 * -129, 0, false);
            turns(real, 8 * 65535, 2, true);
            turns(real, 8 * 65536, 2, false);
            turns(real, -8, 2, false);
            turns(real, 8 * 32767, 1, true);
            turns(real, 8 * 32768, 1, false);
            turns(real, 8L << 31, 3, false);
            turns(real, -(8L << 31), 3, true);
            turns(real, Long.MAX_VALUE, 4, true);
            turns(real, Long.MIN_VALUE, 4, true);
            for (int kind = 0; kind < 5; kind++) {
                turns(real, 1, kind, false);
                turns(real, 7, kind, false);
                turns(real, -1, kind, false);
                turns(real, 12, kind, false);
            }
            MappingMoves x = with(real, Long.MIN_VALUE, 24);
            Due.is(x.turn(0, 4), 1);
            Due.gets(x, 0, 0, Long.MIN_VALUE / 8);
            Due.gets(x, 0, 1, 3);
        }
        turns(6, 8 * 2147483647L, 3, true);
    }

    private static void turnDoublesToFloats() {
        turns(6, 16777217, 5, false);
        turns(6, 16777218, 5, true);
        turns(6, 3, 5, true);
        turns(6, Long.MAX_VALUE, 5, true);
        turns(6, (1L << 53) - 1, 5, false);
        turns(5, 16777219, 6, true);
        turns(5, 3, 5, true);
        turns(6, (1L << 53) + 1, 6, true);
        MappingMoves x = with(6, 3, 16777218);
        Due.is(x.turn(0, 5), 1);
        Due.gets(x, 0, 0, 3);
        Due.gets(x, 0, 1, 16777218);
        Due.is(x.put(0, 1, 16777217), 1);
        Due.gets(x, 0, 1, 16777216);
    }

    /** The numbers themselves count: they come back though they are told as the greatest long. */
    private static void turnBeyondTelling() {
        MappingMoves x = with(4, 1L << 62, Long.MIN_VALUE, 1L << 60);
        for (int real = 5; real < 7; real++) {
            Due.is(x.turn(0, real), 1);
            Due.gets(x, 0, 0, Long.MAX_VALUE);
            Due.gets(x, 0, 1, Long.MIN_VALUE);
            Due.gets(x, 0, 2, Long.MAX_VALUE);
            Due.is(x.sum(0, real), -2);
            Due.is(x.turn(0, 3), -20);
            Due.is(x.turn(0, 4), 1);
            Due.gets(x, 0, 0, 1L << 62);
            Due.gets(x, 0, 1, Long.MIN_VALUE);
            Due.gets(x, 0, 2, 1L << 60);
        }
    }

    private static void turnTellsTheFirst() {
        MappingMoves x = new MappingMoves();
        x.make(0, 3, 40);
        x.put(0, 39, 1000);
        Due.is(x.turn(0, 0), -59);
        x.put(0, 12, -1000);
        Due.is(x.turn(0, 0), -32);
        x.put(0, 0, 128);
        Due.is(x.turn(0, 0), -20);
        x.make(23, 6, 40);
        Due.is(x.turn(23, 4), 1);
        Due.is(x.turn(23, 5), 1);
        Due.is(x.kind(23), 5);
        x.make(0, 3, 0);
        Due.is(x.turn(0, 0), 1);
        Due.is(x.kind(0), 0);
        Due.is(x.length(0), 0);
    }

    private static void turnInTheWay() {
        MappingMoves x = new MappingMoves();
        Due.is(x.turn(-1, 0), BAD);
        Due.is(x.turn(24, 0), BAD);
        Due.is(x.turn(0, -1), BAD);
        Due.is(x.turn(0, 7), BAD);
        Due.is(x.turn(0, 0), GONE);
        x.make(0, 7, 1);
        Due.is(x.turn(0, 7), BAD);
        Due.is(x.turn(0, 0), OTHER);
        x.let(0);
        Due.is(x.turn(0, 0), OTHER);
        x.make(0, 0, 1);
        x.let(0);
        Due.is(x.turn(0, 0), GONE);
        Due.is(x.turn(0, 3), GONE);
        Due.is(x.kind(0), 0);
    }
}
