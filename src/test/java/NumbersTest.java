/** Promises 7 to 10, sentence by sentence: put, get, sum, turn. */
public final class NumbersTest {
    private static final int BAD = MappingMoves.BAD, GONE = MappingMoves.GONE, OUT = MappingMoves.OUT;
    private static final int OTHER = MappingMoves.OTHER, CAST = MappingMoves.CAST;
    private static final Class<NullPointerException> NONE_THERE = NullPointerException.class;
    private static final Class<ArrayIndexOutOfBoundsException> OUTSIDE = ArrayIndexOutOfBoundsException.class;
    private static final long[] LEAST = {-128, -32768, 0, Integer.MIN_VALUE, Long.MIN_VALUE};
    private static final long[] MOST = {127, 32767, 65535, Integer.MAX_VALUE, Long.MAX_VALUE};
    private static final long TWO_TO_24 = 1L << 24, TWO_TO_53 = 1L << 53;

    public static void main(String[] args) {
        put();
        putGone();
        putOther();
        putLetGo();
        putOut();
        getNumbers();
        getParts();
        getGone();
        getOut();
        getNoPlace();
        getThrowsByItself();
        sum();
        sumAsTold();
        sumRunsOver();
        sumKinds();
        sumGone();
        sumCast();
        sumLetGo();
        turn();
        turnOwnKind();
        turnWholesToWholes();
        turnRealsToWholes();
        turnRealsWithAPoint();
        turnWholesToFloats();
        turnWholesToDoubles();
        turnDoublesToFloats();
        turnFloatsToDoubles();
        turnNumbersThemselves();
        turnTellsTheFirst();
        turnNoCells();
        turnBad();
        turnGone();
        turnOther();
        turnLetGo();
        Due.end();
    }

    // ---- put

    private static void put() {
        Due.sentence("Promise 7", "A CELL of a COLUMN of NUMBERS becomes v: 1");
        for (int kind = 0; kind < 7; kind++) {
            MappingMoves x = new MappingMoves();
            x.make(0, kind, 40);
            x.make(1, kind, 40);
            for (int i = 0; i < 40; i++) {
                Due.is(x.put(0, i, 40 - i), 1);
            }
            Due.is(x.put(0, 0, 99), 1);
            Due.is(x.put(0, 39, 98), 1);
            Due.is(x.put(0, 39, 97), 1);
            Due.gets(x, 0, 0, 99);
            Due.gets(x, 0, 39, 97);
            for (int i = 1; i < 39; i++) {
                Due.gets(x, 0, i, 40 - i);
                Due.gets(x, 1, i, 0);
            }
        }
    }

    private static void putGone() {
        Due.sentence("Promise 7", "GONE: no COLUMN");
        Scene.refused(x -> x.put(Scene.NOTHING, 0, 1), GONE);
        Scene.refused(x -> x.put(Scene.NOTHING, -1, 1), GONE);
    }

    private static void putOther() {
        Due.sentence("Promise 7", "OTHER: a SHELF");
        for (int place : new int[] {Scene.ANY, Scene.RIGIDS, Scene.SOFTS, Scene.GONE_SHELF, Scene.NO_SHELF_CELLS}) {
            Scene.refused(x -> x.put(place, 0, 1), OTHER);
            Scene.refused(x -> x.put(place, -1, 1), OTHER);
            Scene.refused(x -> x.put(place, 40, 1), OTHER);
        }
    }

    private static void putLetGo() {
        Due.sentence("Promise 7", "GONE: LET GO");
        for (int kind = 0; kind < 7; kind++) {
            MappingMoves x = Scene.numbers(kind, 5);
            x.let(0);
            Due.is(x.put(0, 0, 1), GONE);
            Due.is(x.put(0, 1, 1), GONE);
            Due.is(x.put(0, -1, 1), GONE);
        }
        Scene.refused(x -> x.put(Scene.GONE_INTS, 0, 1), GONE);
    }

    private static void putOut() {
        Due.sentence("Promise 7", "OUT");
        for (int kind = 0; kind < 7; kind++) {
            MappingMoves x = Scene.numbers(kind, 5, 6);
            for (int i : new int[] {-1, 2, 3, 39, 40, Scene.LEAST, Scene.MOST}) {
                Due.is(x.put(0, i, 1), OUT);
            }
            Scene.holds(x, 0, 5, 6);
        }
        Scene.refused(x -> x.put(Scene.NO_CELLS, 0, 1), OUT);
        Due.sentence("Promise 7", "BAD");
        for (int place : Scene.NO_PLACES) {
            Scene.refused(x -> x.put(place, -1, 1), BAD);
        }
    }

    // ---- get

    private static void getNumbers() {
        Due.sentence("Promise 8", "What a CELL tells: of NUMBERS that");
        for (int kind = 0; kind < 5; kind++) {
            Scene.holds(Scene.numbers(kind, LEAST[kind], 0, 1, MOST[kind]), 0, LEAST[kind], 0, 1, MOST[kind]);
        }
        for (int kind = 5; kind < 7; kind++) {
            Scene.holds(Scene.numbers(kind, Long.MIN_VALUE, -3, 0, 3, Long.MAX_VALUE), 0, Long.MIN_VALUE, -3, 0, 3, Long.MAX_VALUE);
        }
        Scene.holds(Scene.numbers(0, -1), 0, -1);
    }

    private static void getParts() {
        Due.sentence("Promise 8", "of a SHELF the PART's number");
        MappingMoves x = new MappingMoves();
        for (int number = 0; number < 40; number++) {
            x.part(1, number);
        }
        x.make(0, 7, 40);
        x.make(1, 8, 40);
        for (int i = 0; i < 40; i++) {
            x.lay(0, i, 39 - i);
            x.lay(1, i, i);
        }
        for (int i = 0; i < 40; i++) {
            Due.gets(x, 0, i, 39 - i);
            Due.gets(x, 1, i, i);
        }
    }

    private static void getGone() {
        Due.sentence("Promise 8", "NullPointerException: for what GONE is told");
        for (int i : new int[] {0, -1, 40}) {
            Scene.refusedGet(Scene.NOTHING, i, NONE_THERE);
            Scene.refusedGet(Scene.GONE_INTS, i, NONE_THERE);
            Scene.refusedGet(Scene.GONE_SHELF, i, NONE_THERE);
        }
        Scene.refusedGet(Scene.ANY, 1, NONE_THERE);
        Scene.refusedGet(Scene.RIGIDS, 1, NONE_THERE);
        MappingMoves x = Scene.scene();
        x.lay(Scene.SOFTS, 1, -1);
        Due.getThrows(x, Scene.SOFTS, 1, NONE_THERE);
    }

    private static void getOut() {
        Due.sentence("Promise 8", "ArrayIndexOutOfBoundsException: OUT");
        for (int i : new int[] {-1, 4, 40, Scene.LEAST, Scene.MOST}) {
            Scene.refusedGet(Scene.BYTES, i, OUTSIDE);
            Scene.refusedGet(Scene.LONGS, i, OUTSIDE);
            Scene.refusedGet(Scene.FLOATS, i, OUTSIDE);
            Scene.refusedGet(Scene.DOUBLES, i, OUTSIDE);
            Scene.refusedGet(Scene.ANY, i, OUTSIDE);
            Scene.refusedGet(Scene.RIGIDS, i, OUTSIDE);
            Scene.refusedGet(Scene.SOFTS, i, OUTSIDE);
        }
        Scene.refusedGet(Scene.BYTES, 3, OUTSIDE);
        Scene.refusedGet(Scene.NO_CELLS, 0, OUTSIDE);
        Scene.refusedGet(Scene.NO_SHELF_CELLS, 0, OUTSIDE);
    }

    private static void getNoPlace() {
        Due.sentence("Promise 8", "also no such PLACE, first of all");
        for (int place : Scene.NO_PLACES) {
            Scene.refusedGet(place, 0, OUTSIDE);
            Scene.refusedGet(place, -1, OUTSIDE);
            Due.getThrows(new MappingMoves(), place, 0, OUTSIDE);
        }
    }

    /** An exception of the machine's own has a text (an index, a name); the class throws its own without one. */
    private static void getThrowsByItself() {
        Due.sentence("Promise 8", "throws NullPointerException, ArrayIndexOutOfBoundsException");
        for (int place : new int[] {-1, 24, Scene.LEAST, Scene.MOST, Scene.NOTHING, Scene.GONE_INTS, Scene.GONE_SHELF, Scene.ANY,
            Scene.NO_CELLS, Scene.NO_SHELF_CELLS}) {
            for (int i : new int[] {-1, 1, 40, Scene.LEAST, Scene.MOST}) {
                String text = "nothing thrown";
                try {
                    Scene.scene().get(place, i);
                } catch (NullPointerException | ArrayIndexOutOfBoundsException e) {
                    text = e.getMessage();
                }
                Due.isTrue(text == null, "get(" + place + ", " + i + "): " + text);
            }
        }
    }

    // ---- sum

    private static void sum() {
        Due.sentence("Promise 9", "All CELLS of a COLUMN of a KIND 0 .. 6");
        for (int kind = 0; kind < 7; kind++) {
            Due.is(Scene.numbers(kind).sum(0, kind), 0);
            Due.is(Scene.numbers(kind, 9).sum(0, kind), 9);
            Due.is(Scene.numbers(kind, 9, 8, 100).sum(0, kind), 117);
            MappingMoves x = new MappingMoves();
            x.make(23, kind, 40);
            for (int i = 0; i < 40; i++) {
                x.put(23, i, i + 1);
            }
            Due.is(x.sum(23, kind), 820);
            Due.is(x.sum(23, kind), 820);
        }
    }

    private static void sumAsTold() {
        Due.sentence("Promise 9", "as they tell");
        Due.is(Scene.numbers(0, 200, -1).sum(0, 0), -57);
        Due.is(Scene.numbers(1, 40000).sum(0, 1), -25536);
        Due.is(Scene.numbers(2, -1, -1).sum(0, 2), 131070);
        for (int kind = 5; kind < 7; kind++) {
            Due.is(Scene.numbers(kind, 3, 4, -8).sum(0, kind), -1);
            MappingMoves x = Scene.numbers(4, 5, 1L << 62);
            x.turn(0, kind);
            Due.is(x.sum(0, kind), 39);
            Due.is(Scene.numbers(kind, Long.MAX_VALUE).sum(0, kind), -1);
            Due.is(Scene.numbers(kind, Long.MIN_VALUE).sum(0, kind), 0);
        }
    }

    private static void sumRunsOver() {
        Due.sentence("Promise 9", "added as ints (their lowest 32 bits, what runs over is lost)");
        Due.is(Scene.numbers(3, Integer.MAX_VALUE, 1).sum(0, 3), Integer.MIN_VALUE);
        Due.is(Scene.numbers(3, Integer.MIN_VALUE, -1).sum(0, 3), Integer.MAX_VALUE);
        Due.is(Scene.numbers(3, Integer.MIN_VALUE, Integer.MIN_VALUE).sum(0, 3), 0);
        Due.is(Scene.numbers(4, 1L << 32, 7).sum(0, 4), 7);
        Due.is(Scene.numbers(4, (1L << 32) - 1).sum(0, 4), -1);
        Due.is(Scene.numbers(4, 1L << 31).sum(0, 4), Integer.MIN_VALUE);
        Due.is(Scene.numbers(4, Long.MAX_VALUE, Long.MIN_VALUE, 3).sum(0, 4), 2);
        for (int kind = 5; kind < 7; kind++) {
            Due.is(Scene.numbers(kind, 1L << 31).sum(0, kind), Integer.MIN_VALUE);
            Due.is(Scene.numbers(kind, 1L << 33, 1L << 31, 1L << 31, 5).sum(0, kind), 5);
        }
    }

    private static void sumKinds() {
        Due.sentence("Promise 9", "of a KIND 0 .. 6");
        for (int kind : new int[] {-1, 7, 8, 9, 10, Scene.LEAST, Scene.MOST}) {
            for (int place : new int[] {Scene.BYTES, Scene.ANY, Scene.RIGIDS, Scene.SOFTS, Scene.GONE_INTS, Scene.NOTHING}) {
                Scene.refused(x -> x.sum(place, kind), BAD);
            }
        }
        Due.sentence("Promise 9", "BAD");
        for (int place : Scene.NO_PLACES) {
            Scene.refused(x -> x.sum(place, 0), BAD);
        }
    }

    private static void sumGone() {
        Due.sentence("Promise 9", "GONE: no COLUMN");
        for (int kind = 0; kind < 7; kind++) {
            int which = kind;
            Scene.refused(x -> x.sum(Scene.NOTHING, which), GONE);
        }
    }

    private static void sumCast() {
        Due.sentence("Promise 9", "CAST: it is of another KIND");
        for (int own = 0; own < 10; own++) {
            MappingMoves x = new MappingMoves();
            x.make(0, own, 2);
            x.make(1, own, 2);
            x.let(1);
            for (int kind = 0; kind < 7; kind++) {
                Due.is(x.sum(0, kind), own == kind ? 0 : CAST);
                Due.is(x.sum(1, kind), own == kind ? GONE : CAST);
            }
        }
    }

    private static void sumLetGo() {
        Due.sentence("Promise 9", "CAST: it is of another KIND; GONE");
        Scene.refused(x -> x.sum(Scene.GONE_INTS, 3), GONE);
        MappingMoves x = Scene.numbers(0);
        x.let(0);
        Due.is(x.sum(0, 0), GONE);
    }

    // ---- turn

    /** A column of one cell 0 and one v: whether it turns, and that nothing has changed if not. */
    private static void turns(int kind, long v, int other, boolean can) {
        MappingMoves x = Scene.numbers(kind, 0, v);
        MappingMoves y = Scene.numbers(kind, 0, v);
        Due.is(x.turn(0, other), can ? 1 : -21);
        if (can) {
            Due.is(x.kind(0), other);
            Due.is(x.length(0), 2);
            Due.gets(x, 0, 0, 0);
        } else {
            Due.same(Scene.everything(x), Scene.everything(y));
        }
    }

    private static void turn() {
        Due.sentence("Promise 10", "A COLUMN of NUMBERS becomes one of another KIND 0 .. 6 (or its own), if each CELL can be told by that "
                + "just as it is: 1");
        for (int kind = 0; kind < 7; kind++) {
            for (int other = 0; other < 7; other++) {
                long eight = kind > 4 ? 8 : 1;
                MappingMoves x = Scene.numbers(kind, 5 * eight, 0, 127 * eight);
                Due.is(x.turn(0, other), 1);
                long times = other > 4 ? 8 : 1;
                Scene.holds(x, 0, 5 * times, 0, 127 * times);
                Due.is(x.kind(0), other);
                Due.is(x.turn(0, kind), 1);
                Scene.holds(x, 0, 5 * eight, 0, 127 * eight);
                Due.is(x.turn(0, other), 1);
                Due.is(x.put(0, 1, -1), 1);
                Due.gets(x, 0, 1, other == 2 ? 65535 : -1);
            }
        }
    }

    private static void turnOwnKind() {
        Due.sentence("Promise 10", "(or its own)");
        for (int kind = 0; kind < 5; kind++) {
            MappingMoves x = Scene.numbers(kind, LEAST[kind], MOST[kind], 1);
            Due.is(x.turn(0, kind), 1);
            Due.is(x.kind(0), kind);
            Scene.holds(x, 0, LEAST[kind], MOST[kind], 1);
        }
        for (int kind = 5; kind < 7; kind++) {
            MappingMoves x = Scene.numbers(kind, 3, -1, TWO_TO_24, Long.MAX_VALUE, Long.MIN_VALUE);
            Due.is(x.turn(0, kind), 1);
            Due.is(x.kind(0), kind);
            Scene.holds(x, 0, 3, -1, TWO_TO_24, Long.MAX_VALUE, Long.MIN_VALUE);
        }
        Scene.refused(x -> x.turn(Scene.LONGS, 4), 1);
        Scene.refused(x -> x.turn(Scene.DOUBLES, 6), 1);
    }

    private static void turnWholesToWholes() {
        Due.sentence("Promise 10", "if each CELL can be told by that just as it is");
        for (int from = 0; from < 5; from++) {
            for (int to = 0; to < 5; to++) {
                for (long edge : new long[] {LEAST[to], MOST[to]}) {
                    for (long v : new long[] {edge - 1, edge, edge + 1, LEAST[from], MOST[from], -1, 0}) {
                        if (v >= LEAST[from] && v <= MOST[from]) {
                            turns(from, v, to, v >= LEAST[to] && v <= MOST[to]);
                        }
                    }
                }
            }
        }
    }

    private static void turnRealsToWholes() {
        Due.sentence("Promise 10", "KINDS 5, 6 to 0 .. 4: wholes within these");
        for (int from = 5; from < 7; from++) {
            for (int to = 0; to < 3; to++) {
                turns(from, 8 * LEAST[to], to, true);
                turns(from, 8 * LEAST[to] - 8, to, false);
                turns(from, 8 * MOST[to], to, true);
                turns(from, 8 * MOST[to] + 8, to, false);
            }
            turns(from, 8 * LEAST[3], 3, true);
            turns(from, 8 * MOST[3] + 8, 3, false);
            turns(from, -(8L << 32), 3, false);
            turns(from, Long.MAX_VALUE, 3, false);
            turns(from, Long.MIN_VALUE, 3, false);
            turns(from, Long.MAX_VALUE, 4, true);
            turns(from, Long.MIN_VALUE, 4, true);
        }
        turns(6, 8 * MOST[3], 3, true);
        turns(6, 8 * LEAST[3] - 8, 3, false);
        turns(5, 8 * (MOST[3] - 127), 3, true);
        turns(5, 8 * MOST[3], 3, false);
    }

    private static void turnRealsWithAPoint() {
        Due.sentence("Promise 10", "wholes within these");
        for (int from = 5; from < 7; from++) {
            for (int to = 0; to < 5; to++) {
                for (long v = -9; v <= 9; v++) {
                    turns(from, v, to, v % 8 == 0 && (v >= 0 || to != 2));
                }
                turns(from, 8 * 127 + 1, to, false);
                turns(from, 8 * 127 - 1, to, false);
                turns(from, -8 * 128 + 1, to, false);
            }
            turns(from, TWO_TO_24 - 1, 4, false);
            turns(from, TWO_TO_24 - 4, 4, false);
        }
        turns(6, TWO_TO_53 - 1, 4, false);
        turns(6, 8 * MOST[3] + 1, 3, false);
        turns(6, 8 * LEAST[3] - 1, 3, false);
    }

    private static void turnWholesToFloats() {
        Due.sentence("Promise 10", "0 .. 4 to 5, 6: v as a float, double is v just");
        for (int from = 0; from < 3; from++) {
            turns(from, LEAST[from], 5, true);
            turns(from, MOST[from], 5, true);
        }
        for (int from = 3; from < 5; from++) {
            for (int sign = -1; sign <= 1; sign += 2) {
                turns(from, sign * (TWO_TO_24 - 1), 5, true);
                turns(from, sign * TWO_TO_24, 5, true);
                turns(from, sign * (TWO_TO_24 + 1), 5, false);
                turns(from, sign * (TWO_TO_24 + 2), 5, true);
                turns(from, sign * (TWO_TO_24 + 3), 5, false);
            }
            turns(from, LEAST[from], 5, true);
            turns(from, LEAST[from] + 1, 5, false);
            turns(from, MOST[from], 5, false);
        }
        turns(3, MOST[3] - 127, 5, true);
        turns(3, MOST[3] - 126, 5, false);
        turns(4, MOST[4] - (1L << 39) + 1, 5, true);
        turns(4, MOST[4] - (1L << 39), 5, false);
        turns(4, MOST[4] - 1023, 5, false);
    }

    private static void turnWholesToDoubles() {
        Due.sentence("Promise 10", "v as a float, double is v just");
        for (int from = 0; from < 4; from++) {
            turns(from, LEAST[from], 6, true);
            turns(from, MOST[from], 6, true);
        }
        for (int sign = -1; sign <= 1; sign += 2) {
            turns(4, sign * (TWO_TO_53 - 1), 6, true);
            turns(4, sign * TWO_TO_53, 6, true);
            turns(4, sign * (TWO_TO_53 + 1), 6, false);
            turns(4, sign * (TWO_TO_53 + 2), 6, true);
            turns(4, sign * (TWO_TO_53 + 3), 6, false);
        }
        turns(4, LEAST[4], 6, true);
        turns(4, LEAST[4] + 1, 6, false);
        // The nearest double is 2^63, which is another number, though Java casts it back to this long.
        turns(4, MOST[4], 6, false);
        turns(4, MOST[4] - 1022, 6, false);
        turns(4, MOST[4] - 1023, 6, true);
    }

    private static void turnDoublesToFloats() {
        Due.sentence("Promise 10", "6 to 5: the float is that just");
        for (int sign = -1; sign <= 1; sign += 2) {
            turns(6, sign * 3, 5, true);
            turns(6, sign * (TWO_TO_24 - 1), 5, true);
            turns(6, sign * TWO_TO_24, 5, true);
            turns(6, sign * (TWO_TO_24 + 1), 5, false);
            turns(6, sign * (TWO_TO_24 + 2), 5, true);
            turns(6, sign * (TWO_TO_53 - 1), 5, false);
        }
        turns(6, Long.MAX_VALUE, 5, true);
        turns(6, Long.MIN_VALUE, 5, true);
        turns(6, Long.MAX_VALUE - 1023, 5, false);
        MappingMoves x = Scene.numbers(6, 3, TWO_TO_24 + 2);
        Due.is(x.turn(0, 5), 1);
        Scene.holds(x, 0, 3, TWO_TO_24 + 2);
        Due.is(x.put(0, 1, TWO_TO_24 + 1), 1);
        Due.gets(x, 0, 1, TWO_TO_24);
    }

    private static void turnFloatsToDoubles() {
        Due.sentence("Promise 10", "becomes one of another KIND 0 .. 6");
        for (long v : new long[] {3, -3, TWO_TO_24, TWO_TO_24 + 1, Long.MAX_VALUE, Long.MIN_VALUE, 1L << 50}) {
            turns(5, v, 6, true);
        }
        MappingMoves x = Scene.numbers(5, 3, TWO_TO_24 + 1);
        Due.is(x.turn(0, 6), 1);
        Scene.holds(x, 0, 3, TWO_TO_24);
        Due.is(x.put(0, 1, TWO_TO_24 + 1), 1);
        Due.gets(x, 0, 1, TWO_TO_24 + 1);
    }

    private static void turnNumbersThemselves() {
        Due.sentence("Promise 10", "The numbers themselves (v / 8 in 5 and 6) count, not how they are told");
        for (int real = 5; real < 7; real++) {
            turns(real, 8, 0, true);
            turns(real, 128, 0, true);
            turns(real, 1, 0, false);
            MappingMoves x = Scene.numbers(4, 1L << 62, Long.MIN_VALUE, 1L << 60, -(1L << 62), 3);
            Due.is(x.turn(0, real), 1);
            Scene.holds(x, 0, Long.MAX_VALUE, Long.MIN_VALUE, Long.MAX_VALUE, Long.MIN_VALUE, 24);
            Due.is(x.turn(0, 3), -20);
            Due.is(x.turn(0, 11 - real), 1);
            Due.is(x.turn(0, 4), 1);
            Scene.holds(x, 0, 1L << 62, Long.MIN_VALUE, 1L << 60, -(1L << 62), 3);
            x = Scene.numbers(real, Long.MIN_VALUE, 24);
            Due.is(x.turn(0, 4), 1);
            Scene.holds(x, 0, Long.MIN_VALUE / 8, 3);
        }
    }

    private static void turnTellsTheFirst() {
        Due.sentence("Promise 10", "else -20 less the first that can't");
        for (int i = 39; i >= 0; i--) {
            MappingMoves x = new MappingMoves();
            x.make(0, 3, 40);
            x.put(0, 39, 1000);
            x.put(0, i, 128);
            Due.is(x.turn(0, 0), -20 - i);
            Due.is(x.kind(0), 3);
            Due.is(x.turn(0, 5), 1);
            Due.is(x.turn(0, 0), -20 - i);
            x.put(0, i, 1);
            x.put(0, 39, 1);
            Due.is(x.turn(0, 4), -20 - i);
            Due.is(x.kind(0), 5);
        }
        Scene.refused(x -> x.turn(Scene.LONGS, 0), -20);
        Scene.refused(x -> x.turn(Scene.LONGS, 5), -20);
        Scene.refused(x -> x.turn(Scene.BYTES, 2), -22);
    }

    private static void turnNoCells() {
        Due.sentence("Promise 10", "if each CELL can be told by that");
        for (int kind = 0; kind < 7; kind++) {
            for (int other = 0; other < 7; other++) {
                MappingMoves x = Scene.numbers(kind);
                Due.is(x.turn(0, other), 1);
                Due.is(x.kind(0), other);
                Due.is(x.length(0), 0);
            }
        }
        // Cells that a longer column once had at this place are not looked at.
        MappingMoves x = Scene.numbers(3, 1, 1000);
        x.make(0, 3, 1);
        Due.is(x.turn(0, 0), 1);
    }

    private static void turnBad() {
        Due.sentence("Promise 10", "BAD");
        for (int kind : new int[] {-1, 7, 8, 9, 10, Scene.LEAST, Scene.MOST}) {
            for (int place : new int[] {Scene.BYTES, Scene.ANY, Scene.RIGIDS, Scene.SOFTS, Scene.GONE_INTS, Scene.NOTHING}) {
                Scene.refused(x -> x.turn(place, kind), BAD);
            }
        }
        for (int place : Scene.NO_PLACES) {
            Scene.refused(x -> x.turn(place, 0), BAD);
        }
    }

    private static void turnGone() {
        Due.sentence("Promise 10", "GONE: no COLUMN");
        for (int kind = 0; kind < 7; kind++) {
            int which = kind;
            Scene.refused(x -> x.turn(Scene.NOTHING, which), GONE);
        }
    }

    private static void turnOther() {
        Due.sentence("Promise 10", "OTHER: a SHELF");
        for (int place : new int[] {Scene.ANY, Scene.RIGIDS, Scene.SOFTS, Scene.NO_SHELF_CELLS, Scene.GONE_SHELF}) {
            for (int kind = 0; kind < 7; kind++) {
                int which = kind;
                Scene.refused(x -> x.turn(place, which), OTHER);
            }
        }
    }

    private static void turnLetGo() {
        Due.sentence("Promise 10", "OTHER: a SHELF; GONE");
        for (int kind = 0; kind < 7; kind++) {
            int which = kind;
            Scene.refused(x -> x.turn(Scene.GONE_INTS, which), GONE);
            MappingMoves x = Scene.numbers(kind);
            x.let(0);
            Due.is(x.turn(0, 3), GONE);
            Due.is(x.kind(0), kind);
        }
    }
}
